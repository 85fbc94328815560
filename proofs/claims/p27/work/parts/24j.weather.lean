/-! ===== the class: weather told, drawn, storms told ===== -/
def rwC (S : fw_S) (k : Nat) : Int := (S.1 (796 + k) 0).toInt
def frS (r : Nat → Int) : Int := if r 0 = -1 then 0 else if r 1 = -1 then 1 else if r 2 = -1 then 2 else if r 3 = -1 then 3 else -1
def skS (a : Sk) (n r : Int) : Sk := (a.1, a.2.1, a.2.2.1, fun k => if (k : Int) = n then r else a.2.2.2.1 k, fun k => if (k : Int) = n then -1 else a.2.2.2.2 k)
theorem frS_lo {r : Nat → Int} {n : Nat} (h : ∀ k : Nat, k < n → r k ≠ -1) (hn : n < 4) (hr : r n = -1) : frS r = n := by
  have : n = 0 ∨ n = 1 ∨ n = 2 ∨ n = 3 := by omega
  unfold frS
  rcases this with rfl | rfl | rfl | rfl
  · rw [if_pos hr]; rfl
  · rw [if_neg (h 0 (by omega)), if_pos hr]; rfl
  · rw [if_neg (h 0 (by omega)), if_neg (h 1 (by omega)), if_pos hr]; rfl
  · rw [if_neg (h 0 (by omega)), if_neg (h 1 (by omega)), if_neg (h 2 (by omega)), if_pos hr]; rfl
theorem frS_no {r : Nat → Int} (h : ∀ k : Nat, k < 4 → r k ≠ -1) : frS r = -1 := by
  unfold frS
  rw [if_neg (h 0 (by omega)), if_neg (h 1 (by omega)), if_neg (h 2 (by omega)), if_neg (h 3 (by omega))]
def R_isStorm : List av_X → fw_S → fw_O → fw_S → Prop := fun xs S oc _ => ∃ v : Int32, oc = .inl (some (.int v)) ∧ v.toInt = b2i (¬ rwC S (nv xs 1).toNat = -1)
def R_freeStorm : List av_X → fw_S → fw_O → fw_S → Prop := fun _ S oc _ => ∃ v : Int32, oc = .inl (some (.int v)) ∧ v.toInt = frS (rwC S)
def R_tellStorm : List av_X → fw_S → fw_O → fw_S → Prop := fun xs S _ S' => skC S' = skS (skC S) (nv xs 1) (nv xs 2)
def R_weather : List av_X → fw_S → fw_O → fw_S → Prop := fun xs S oc S' => (∃ v : Int32, oc = .inl (some (.int v)) ∧ v.toInt = (skC S).1) ∧ skC S' = (nv xs 1, 0, (skC S).2.2)
def R_draws : List av_X → fw_S → fw_O → fw_S → Prop := fun xs S oc S' => (∃ v : Int32, oc = .inl (some (.int v)) ∧ v.toInt = (skC S).2.2.1) ∧ skC S' = ((skC S).1, 1, nv xs 1, (skC S).2.2.2)
def R_storm : List av_X → fw_S → fw_O → fw_S → Prop := fun xs S oc S' => (0 ≤ frS (rwC S) ∧ (∃ v : Int32, oc = .inl (some (.int v)) ∧ v.toInt = frS (rwC S)) ∧ skC S' = skS (skC S) (frS (rwC S)) (nv xs 1)) ∨ (frS (rwC S) = -1 ∧ oc = .inr "java/lang/IllegalStateException" ∧ S' = S)
theorem skC_ext {S : fw_S} {a : Sk} (h0 : (S.1 794 0).toInt = a.1) (h3 : (S.1 794 3).toInt = a.2.1) (h4 : (S.1 794 4).toInt = a.2.2.1) (hr : ∀ k : Nat, (if k < 4 then (S.1 (796 + k) 0).toInt else 0) = a.2.2.2.1 k) (hc : ∀ k : Nat, (if k < 4 then (S.1 (796 + k) 2).toInt else 0) = a.2.2.2.2 k) : skC S = a := by
  obtain ⟨a1, a2, a3, a4, a5⟩ := a
  unfold skC
  rw [h0, h3, h4, show (fun k => if k < 4 then (S.1 (796 + k) 0).toInt else 0) = a4 from funext hr, show (fun k => if k < 4 then (S.1 (796 + k) 2).toInt else 0) = a5 from funext hc]
abbrev kh_isStorm_y : mt_T := (⟨"UtilityWorks$Sky", "isStorm", "(I)Z"⟩, prog_8_method_7_code, 2, some .boolean, 6, 1, 1, 31066, 31064, 31065, 21013)
def kh_isStorm : ct_T := (319, [(2, 794, 794, 1), (0, 0, 3, 1)], [], [], [(1, (0, 0, 1, 1), [(2, 794, 794, 1), (0, 0, 3, 1)], [], ([], []))], [], 0, 0, 0)
def kh_isStorm_b0_0 : sg_T := (17, 0, ([((2, 794, 794, 1), none), ((0, 0, 3, 1), none), ((2, 795, 795, 1), none), ((2, 796, 799, 1), none), ((0, 0, 0, 0), none), ((0, (-1), (-1), 1), none), ((0, (-1), (-1), 0), none), ((0, 0, 0, 0), none)], [(0, 0), (1, 1)], [7], [(3, 4, 5), (2, 1, 3)], [], [(300000, 5, 6), (800005, 3, 4)], [], [], some []))
def kh_isStorm_b0_1 : sg_T := (17, 0, ([((2, 794, 794, 1), none), ((0, 0, 3, 1), none), ((2, 795, 795, 1), none), ((2, 796, 799, 1), none), ((0, 0, 0, 0), none), ((0, 0, 2, 1), none), ((0, (-1), (-1), 0), none), ((0, 1, 1, 0), none)], [(0, 0), (1, 1)], [7], [(3, 4, 5), (2, 1, 3)], [(5, (-1))], [(400000, 5, 6), (800005, 3, 4)], [], [], some []))
set_option maxHeartbeats 16000000 in
set_option maxRecDepth 8000 in
theorem kh_isStorm_okR : ct_okR wd_fl2 kh_isStorm R_isStorm := ct_handR (R := R_isStorm) (ff := wd_ff2) (y := kh_isStorm_y) (Cs := []) wd_fl2_ok rfl (List.forall_mem_nil _) (by decide +kernel) (fun l D tc ad kd N sm xs S p e s m args below meth c sz lv G H0 => by
  have hx : xs.length = 2 := by rw [H0.2.1.1]; rfl
  obtain ⟨α1, hle, Hr⟩ := as_recM (pl := []) [] (by decide +kernel) H0
  have hf := H0.2.2.2.2.2.2.2.2.2.2.1
  have hl1 : α1.length = 2 := by rw [Hr.2.1.1]; rfl
  have hl0 : xs.length = 2 := by rw [H0.2.1.1]; rfl
  have hxa : al_le xs α1 := H0.1.trans hle
  obtain ⟨g1, -, g3, g4, -⟩ := as_fx Hr
  have g0 : (794 ≤ nv α1 0 ∧ nv α1 0 ≤ 794) ∧ (0 ≤ nv α1 1 ∧ nv α1 1 ≤ 3) ∧ True := by
    refine ⟨by have h := (en_nv (i := 0) Hr.2.1 rfl).2; exact h, by have h := (en_nv (i := 1) Hr.2.1 rfl).2; exact h, trivial⟩
  have r0 : nv α1 0 = nv xs 0 := nv_le hle (by omega)
  have r1 : nv α1 1 = nv xs 1 := nv_le hle (by omega)
  refine hd_segMR G (na := 2) (fuel := 600) (first := true) (Bs := [kh_isStorm_b0_0, kh_isStorm_b0_1]) (by decide +kernel) hl1 Hr ?_
  intro q hq β lv' st' S' H1
  simp only [List.mem_cons, List.not_mem_nil, or_false] at hq
  rcases hq with rfl | rfl
  · obtain ⟨f1, f2, f3, f4, f5⟩ := as_fx H1
    simp only [kh_isStorm_b0_0, Nat.reduceEqDiff, if_false, fx_env, fx_c, fx_ne, fx_hf, wl_S, Nat.zero_add, Nat.reduceAdd, Nat.reduceDiv, Nat.reduceMod, List.getElem?_cons_zero, List.getElem?_cons_succ, if_true, and_true, true_and] at f1 f2 f3 f4 f5
    have fe0 : nv β 0 = 794 := by omega
    have fe2 : nv β 2 = 795 := by omega
    have fe4 : nv β 4 = 0 := by omega
    have fe5 : nv β 5 = (-1) := by omega
    have fe6 : nv β 6 = (-1) := by omega
    have fe7 : nv β 7 = 0 := by omega
    try simp only [fe0, fe2, fe4, fe5, fe6, fe7, Int.reduceToNat] at f2 f3 f4 f5
    have s0 : nv β 0 = nv α1 0 := nv_le H1.1 (by omega)
    have s1 : nv β 1 = nv α1 1 := nv_le H1.1 (by omega)
    obtain ⟨c0, c1⟩ := f2
    have rt3 := hf_rt (c := 795) (lo := 0) (hi := 3) (base := 796) (rv := 2) (iv := 1) (n := 3) (by decide +kernel) (by decide +kernel) H1 (by decide +kernel) (by omega) (by omega) (by omega)
    have o1 := old_i c1 (by have h := (en_nv (i := 5) H1.2.1 rfl).1; rw [fe5] at h; exact h)
    have u : rwC S (nv xs 1).toNat = nv β 5 := by
      show (S.1 (796 + (nv xs 1).toNat) 0).toInt = _
      rw [show 796 + (nv xs 1).toNat = (nv β 3).toNat by omega]
      exact o1.trans (by omega)
    exact hd_retIR G (v := 7) (by decide +kernel) (as_backM H1 (by decide +kernel) hxa hf) _ List.mem_cons_self rfl (by decide +kernel) (by decide) (fun w hw => by cases hw) (fun y hy => ⟨y, rfl, by rw [hy, u]; unfold b2i; split <;> omega⟩)
  · obtain ⟨f1, f2, f3, f4, f5⟩ := as_fx H1
    simp only [kh_isStorm_b0_1, Nat.reduceEqDiff, if_false, fx_env, fx_c, fx_ne, fx_hf, wl_S, Nat.zero_add, Nat.reduceAdd, Nat.reduceDiv, Nat.reduceMod, List.getElem?_cons_zero, List.getElem?_cons_succ, if_true, and_true, true_and] at f1 f2 f3 f4 f5
    have fe0 : nv β 0 = 794 := by omega
    have fe2 : nv β 2 = 795 := by omega
    have fe4 : nv β 4 = 0 := by omega
    have fe6 : nv β 6 = (-1) := by omega
    have fe7 : nv β 7 = 1 := by omega
    try simp only [fe0, fe2, fe4, fe6, fe7, Int.reduceToNat] at f2 f3 f4 f5
    have s0 : nv β 0 = nv α1 0 := nv_le H1.1 (by omega)
    have s1 : nv β 1 = nv α1 1 := nv_le H1.1 (by omega)
    obtain ⟨c0, c1⟩ := f2
    have rt3 := hf_rt (c := 795) (lo := 0) (hi := 3) (base := 796) (rv := 2) (iv := 1) (n := 3) (by decide +kernel) (by decide +kernel) H1 (by decide +kernel) (by omega) (by omega) (by omega)
    have o1 := old_i c1 (en_nv (i := 5) H1.2.1 rfl).1
    have u : rwC S (nv xs 1).toNat = nv β 5 := by
      show (S.1 (796 + (nv xs 1).toNat) 0).toInt = _
      rw [show 796 + (nv xs 1).toNat = (nv β 3).toNat by omega]
      exact o1.trans (by omega)
    exact hd_retIR G (v := 7) (by decide +kernel) (as_backM H1 (by decide +kernel) hxa hf) _ List.mem_cons_self rfl (by decide +kernel) (by decide) (fun w hw => by cases hw) (fun y hy => ⟨y, rfl, by rw [hy, u]; unfold b2i; split <;> omega⟩))
theorem kh_isStorm_ok : ct_ok wd_fl2 kh_isStorm := ct_okR_ok kh_isStorm_okR
abbrev kh_freeStorm_y : mt_T := (⟨"UtilityWorks$Sky", "freeStorm", "()I"⟩, prog_8_method_9_code, 2, some .int, 6, 1, 0, 31062, 31060, 31061, 21013)
def kh_freeStorm : ct_T := (318, [(2, 794, 794, 1)], [], [], [(1, (0, (-1), 3, 1), [(2, 794, 794, 1)], [], ([], []))], [], 1, 21, 0)
def kh_freeStorm_a2 : an_T := (2, 0, ([((2, 794, 794, 1), none), ((0, 0, 4, 1), none)], [(0, 0), (1, 1)], [], [], [], [], [], [], none), [])
def kh_freeStorm_a9 : an_T := (9, 0, ([((2, 794, 794, 1), none), ((0, 0, 3, 1), none), ((0, 0, 3, 1), none)], [(0, 0), (1, 1)], [2, 0], [], [], [], [], [], none), [])
def kh_freeStorm_a12 : an_T := (12, 0, ([((2, 794, 794, 1), none), ((0, 0, 3, 1), none), ((0, 0, 1, 1), none)], [(0, 0), (1, 1)], [2], [], [], [], [], [], none), [])
def kh_freeStorm_b0_0 : sg_T := (2, 0, ([((2, 794, 794, 1), none), ((0, 0, 0, 0), none)], [(1, 1), (0, 0)], [], [], [], [], [], [], some []))
def kh_freeStorm_b2_0 : sg_T := (24, 0, ([((2, 794, 794, 1), none), ((0, 4, 4, 1), none), ((0, 4, 4, 0), none), ((0, (-1), (-1), 0), none)], [(0, 0), (1, 1)], [3], [], [], [(200000, 2, 1)], [], [], some []))
def kh_freeStorm_b2_1 : sg_T := (9, 0, ([((2, 794, 794, 1), none), ((0, 0, 3, 1), none), ((0, 4, 4, 0), none)], [(0, 0), (1, 1)], [1, 0], [], [], [(100000, 1, 2)], [], [], some []))
def kh_freeStorm_b9_0 : sg_T := (12, 0, ([((2, 794, 794, 1), none), ((0, 0, 3, 1), none), ((0, 0, 3, 1), none), ((0, 0, 1, 1), none)], [(0, 0), (1, 1)], [3], [], [], [], [], [], some []))
def kh_freeStorm_b12_0 : sg_T := (2, 0, ([((2, 794, 794, 1), none), ((0, 0, 3, 1), none), ((0, 1, 1, 1), none), ((0, 1, 4, 1), some (1, 1))], [(1, 3), (0, 0)], [], [], [(2, 0)], [], [], [], some []))
def kh_freeStorm_b12_1 : sg_T := (16, 0, ([((2, 794, 794, 1), none), ((0, 0, 3, 1), none), ((0, 0, 0, 1), none)], [(0, 0), (1, 1)], [1], [], [], [], [], [], some []))
def kh_freeStorm_I (l : Launch) (D : va_G) (tc : Nat → ClassId) (ad : Nat → Nat) (kd : Nat → Nat × Nat) (N : Nat) (sm : Nat → Nat) (xs : List av_X) (S : fw_S) (p : Program) (e : Env) (s : State) (m : MethodId) (args : Array Value) (below : List Frame) (meth : Method) (c : Code) (sz : Nat) (k : Nat) : Prop := (∀ (α : List av_X) (lv : List (Nat × Value)) (st : List Value) (S1 : fw_S), as_in ad sm wd_fl2 xs S kh_freeStorm.2.2.2.2.2.1 α kh_freeStorm_a2.2.2.1 lv st S1 → (∀ k : Nat, (k : Int) < nv α 1 → rwC S k ≠ -1) → (4 - nv α 1).toNat * 3 + 2 < k → hd_WR R_freeStorm wd_fl2 kh_freeStorm kh_freeStorm_y l D tc ad kd N sm xs S p e s m args below meth c sz 2 lv st S1 0) ∧ (∀ (α : List av_X) (lv : List (Nat × Value)) (st : List Value) (S1 : fw_S), as_in ad sm wd_fl2 xs S kh_freeStorm.2.2.2.2.2.1 α kh_freeStorm_a9.2.2.1 lv st S1 → ((∀ k : Nat, (k : Int) < nv α 1 → rwC S k ≠ -1) ∧ nv α 2 = nv α 1) → (4 - nv α 1).toNat * 3 + 1 < k → hd_WR R_freeStorm wd_fl2 kh_freeStorm kh_freeStorm_y l D tc ad kd N sm xs S p e s m args below meth c sz 9 lv st S1 0) ∧ (∀ (α : List av_X) (lv : List (Nat × Value)) (st : List Value) (S1 : fw_S), as_in ad sm wd_fl2 xs S kh_freeStorm.2.2.2.2.2.1 α kh_freeStorm_a12.2.2.1 lv st S1 → ((∀ k : Nat, (k : Int) < nv α 1 → rwC S k ≠ -1) ∧ nv α 2 = b2i (¬ rwC S (nv α 1).toNat = -1)) → (4 - nv α 1).toNat * 3 < k → hd_WR R_freeStorm wd_fl2 kh_freeStorm kh_freeStorm_y l D tc ad kd N sm xs S p e s m args below meth c sz 12 lv st S1 0) ∧ True
set_option maxHeartbeats 16000000 in
set_option maxRecDepth 8000 in
theorem kh_freeStorm_h2 {l : Launch} {D : va_G} {tc : Nat → ClassId} {ad : Nat → Nat} {kd : Nat → Nat × Nat} {N : Nat} {sm : Nat → Nat} {xs : List av_X} {S : fw_S} {p : Program} {e : Env} {s : State} {m : MethodId} {args : Array Value} {below : List Frame} {meth : Method} {c : Code} {sz : Nat} {lvE : List (Nat × Value)} (G : hd_C wd_ff2 wd_fl2 kh_freeStorm [kh_isStorm] kh_freeStorm_y l D tc ad kd N sm xs p s m args meth c sz) (H0 : as_in ad sm wd_fl2 xs S kh_freeStorm.2.2.2.2.2.1 xs (hd_0 kh_freeStorm) lvE [] S) {k : Nat} (ih : kh_freeStorm_I l D tc ad kd N sm xs S p e s m args below meth c sz k) : (∀ (α : List av_X) (lv : List (Nat × Value)) (st : List Value) (S1 : fw_S), as_in ad sm wd_fl2 xs S kh_freeStorm.2.2.2.2.2.1 α kh_freeStorm_a2.2.2.1 lv st S1 → (∀ k : Nat, (k : Int) < nv α 1 → rwC S k ≠ -1) → (4 - nv α 1).toNat * 3 + 2 < k + 1 → hd_WR R_freeStorm wd_fl2 kh_freeStorm kh_freeStorm_y l D tc ad kd N sm xs S p e s m args below meth c sz 2 lv st S1 0) := by
  have hx : xs.length = 1 := by rw [H0.2.1.1]; rfl
  intro α lv st S1 H hp hk
  obtain ⟨α1, hle, Hr⟩ := as_recM (pl := []) [] (by decide +kernel) H
  have hf := H.2.2.2.2.2.2.2.2.2.2.1
  have hl1 : α1.length = 2 := by rw [Hr.2.1.1]; rfl
  have hl0 : α.length = 2 := by rw [H.2.1.1]; rfl
  have hxa : al_le xs α1 := H.1.trans hle
  obtain ⟨g1, -, g3, g4, -⟩ := as_fx Hr
  have g0 : (794 ≤ nv α1 0 ∧ nv α1 0 ≤ 794) ∧ (0 ≤ nv α1 1 ∧ nv α1 1 ≤ 4) ∧ True := by
    refine ⟨by have h := (en_nv (i := 0) Hr.2.1 rfl).2; exact h, by have h := (en_nv (i := 1) Hr.2.1 rfl).2; exact h, trivial⟩
  have r0 : nv α1 0 = nv α 0 := nv_le hle (by omega)
  have r1 : nv α1 1 = nv α 1 := nv_le hle (by omega)
  refine hd_segMR G (na := 2) (fuel := 600) (first := true) (Bs := [kh_freeStorm_b2_0, kh_freeStorm_b2_1]) (by decide +kernel) hl1 Hr ?_
  intro q hq β lv' st' S' H1
  simp only [List.mem_cons, List.not_mem_nil, or_false] at hq
  rcases hq with rfl | rfl
  · obtain ⟨f1, f2, f3, f4, f5⟩ := as_fx H1
    simp only [kh_freeStorm_b2_0, Nat.reduceEqDiff, if_false, fx_env, fx_c, fx_ne, fx_hf, wl_S, Nat.zero_add, Nat.reduceAdd, Nat.reduceDiv, Nat.reduceMod, List.getElem?_cons_zero, List.getElem?_cons_succ, if_true, and_true, true_and] at f1 f2 f3 f4 f5
    have fe0 : nv β 0 = 794 := by omega
    have fe1 : nv β 1 = 4 := by omega
    have fe2 : nv β 2 = 4 := by omega
    have fe3 : nv β 3 = (-1) := by omega
    try simp only [fe0, fe1, fe2, fe3, Int.reduceToNat] at f2 f3 f4 f5
    have s0 : nv β 0 = nv α1 0 := nv_le H1.1 (by omega)
    have s1 : nv β 1 = nv α1 1 := nv_le H1.1 (by omega)
    have c0 := f2
    exact hd_retIR G (v := 3) (by decide +kernel) (as_backM H1 (by decide +kernel) hxa hf) _ List.mem_cons_self rfl (by decide +kernel) (by decide) (fun w hw => by cases hw) (fun y hy => ⟨y, rfl, by rw [hy, frS_no (fun k hk => hp k (by omega))]; omega⟩)
  · obtain ⟨f1, f2, f3, f4, f5⟩ := as_fx H1
    simp only [kh_freeStorm_b2_1, Nat.reduceEqDiff, if_false, fx_env, fx_c, fx_ne, fx_hf, wl_S, Nat.zero_add, Nat.reduceAdd, Nat.reduceDiv, Nat.reduceMod, List.getElem?_cons_zero, List.getElem?_cons_succ, if_true, and_true, true_and] at f1 f2 f3 f4 f5
    have fe0 : nv β 0 = 794 := by omega
    have fe2 : nv β 2 = 4 := by omega
    try simp only [fe0, fe2, Int.reduceToNat] at f2 f3 f4 f5
    have s0 : nv β 0 = nv α1 0 := nv_le H1.1 (by omega)
    have s1 : nv β 1 = nv α1 1 := nv_le H1.1 (by omega)
    have c0 := f2
    obtain ⟨α', Ha, hm⟩ := hd_gpM (q := kh_freeStorm_a9) (n := 0) (by decide +kernel) hx H1 (by decide +kernel) hxa hf
    have hfr := H1.2.2.2.2.2.2.2.2.2.2.1
    have m0 : nv α' 0 = nv β 0 := hm 0 0 rfl
    have m1 : nv α' 1 = nv β 1 := hm 1 1 rfl
    have m2 : nv α' 2 = nv β 1 := hm 2 1 rfl
    subst S'
    refine ih.2.1 _ _ _ _ Ha ?_ ?_
    · rw [m1, m2]
      refine ⟨fun k hk => hp k (by omega), ?_⟩
      first | rfl | omega
    · omega
set_option maxHeartbeats 16000000 in
set_option maxRecDepth 8000 in
theorem kh_freeStorm_h9 {l : Launch} {D : va_G} {tc : Nat → ClassId} {ad : Nat → Nat} {kd : Nat → Nat × Nat} {N : Nat} {sm : Nat → Nat} {xs : List av_X} {S : fw_S} {p : Program} {e : Env} {s : State} {m : MethodId} {args : Array Value} {below : List Frame} {meth : Method} {c : Code} {sz : Nat} {lvE : List (Nat × Value)} (G : hd_C wd_ff2 wd_fl2 kh_freeStorm [kh_isStorm] kh_freeStorm_y l D tc ad kd N sm xs p s m args meth c sz) (H0 : as_in ad sm wd_fl2 xs S kh_freeStorm.2.2.2.2.2.1 xs (hd_0 kh_freeStorm) lvE [] S) {k : Nat} (ih : kh_freeStorm_I l D tc ad kd N sm xs S p e s m args below meth c sz k) : (∀ (α : List av_X) (lv : List (Nat × Value)) (st : List Value) (S1 : fw_S), as_in ad sm wd_fl2 xs S kh_freeStorm.2.2.2.2.2.1 α kh_freeStorm_a9.2.2.1 lv st S1 → ((∀ k : Nat, (k : Int) < nv α 1 → rwC S k ≠ -1) ∧ nv α 2 = nv α 1) → (4 - nv α 1).toNat * 3 + 1 < k + 1 → hd_WR R_freeStorm wd_fl2 kh_freeStorm kh_freeStorm_y l D tc ad kd N sm xs S p e s m args below meth c sz 9 lv st S1 0) := by
  have hx : xs.length = 1 := by rw [H0.2.1.1]; rfl
  intro α lv st S1 H hp hk
  obtain ⟨α1, hle, Hr⟩ := as_recM (pl := []) [] (by decide +kernel) H
  have hf := H.2.2.2.2.2.2.2.2.2.2.1
  have hl1 : α1.length = 3 := by rw [Hr.2.1.1]; rfl
  have hl0 : α.length = 3 := by rw [H.2.1.1]; rfl
  have hxa : al_le xs α1 := H.1.trans hle
  obtain ⟨g1, -, g3, g4, -⟩ := as_fx Hr
  have g0 : (794 ≤ nv α1 0 ∧ nv α1 0 ≤ 794) ∧ (0 ≤ nv α1 1 ∧ nv α1 1 ≤ 3) ∧ (0 ≤ nv α1 2 ∧ nv α1 2 ≤ 3) ∧ True := by
    refine ⟨by have h := (en_nv (i := 0) Hr.2.1 rfl).2; exact h, by have h := (en_nv (i := 1) Hr.2.1 rfl).2; exact h, by have h := (en_nv (i := 2) Hr.2.1 rfl).2; exact h, trivial⟩
  have r0 : nv α1 0 = nv α 0 := nv_le hle (by omega)
  have r1 : nv α1 1 = nv α 1 := nv_le hle (by omega)
  have r2 : nv α1 2 = nv α 2 := nv_le hle (by omega)
  refine hd_callRR (Rr := R_isStorm) (Rs := [kh_isStorm]) (idx := 66) G (List.forall_mem_cons.mpr ⟨kh_isStorm_okR, List.forall_mem_nil _⟩) (na := 3) (Bs := [kh_freeStorm_b9_0]) (by decide +kernel) (by decide +kernel) hl1 Hr ?_
  intro q hq β lv' st' S' H1 hRx
  simp only [List.mem_cons, List.not_mem_nil, or_false] at hq
  rcases hq with rfl
  · obtain ⟨f1, f2, f3, f4, f5⟩ := as_fx H1
    simp only [kh_freeStorm_b9_0, Nat.reduceEqDiff, if_false, fx_env, fx_c, fx_ne, fx_hf, wl_S, Nat.zero_add, Nat.reduceAdd, Nat.reduceDiv, Nat.reduceMod, List.getElem?_cons_zero, List.getElem?_cons_succ, if_true, and_true, true_and] at f1 f2 f3 f4 f5
    have fe0 : nv β 0 = 794 := by omega
    try simp only [fe0, Int.reduceToNat] at f2 f3 f4 f5
    have s0 : nv β 0 = nv α1 0 := nv_le H1.1 (by omega)
    have s1 : nv β 1 = nv α1 1 := nv_le H1.1 (by omega)
    have s2 : nv β 2 = nv α1 2 := nv_le H1.1 (by omega)
    obtain ⟨α', Ha, hm⟩ := hd_gpM (q := kh_freeStorm_a12) (n := 0) (by decide +kernel) hx H1 (by decide +kernel) hxa hf
    have hfr := H1.2.2.2.2.2.2.2.2.2.2.1
    have m0 : nv α' 0 = nv β 0 := hm 0 0 rfl
    have m1 : nv α' 1 = nv β 1 := hm 1 1 rfl
    have m2 : nv α' 2 = nv β 3 := hm 2 3 rfl
    subst S'
    obtain ⟨Cc, hCc, ys, rr, hnm, hR, rest, hre⟩ := hRx
    rcases List.mem_singleton.mp hCc with rfl
    have y1 : nv ys 1 = nv α1 2 := nm_nv hnm (i := 1) (v := 2) rfl
    have eS : S1 = S := fr_same (show fr_in [] S S1 from hf)
    obtain ⟨v, v1, v2⟩ := hR
    have hv := hd_rv H1 (i := 3) rfl rfl rfl hre (Sum.inl.inj v1)
    rw [hv, y1, r2, hp.2, eS] at v2
    refine ih.2.2.1 _ _ _ _ Ha ?_ ?_
    · rw [m1, m2, s1, r1]
      exact ⟨hp.1, v2⟩
    · omega
set_option maxHeartbeats 16000000 in
set_option maxRecDepth 8000 in
theorem kh_freeStorm_h12 {l : Launch} {D : va_G} {tc : Nat → ClassId} {ad : Nat → Nat} {kd : Nat → Nat × Nat} {N : Nat} {sm : Nat → Nat} {xs : List av_X} {S : fw_S} {p : Program} {e : Env} {s : State} {m : MethodId} {args : Array Value} {below : List Frame} {meth : Method} {c : Code} {sz : Nat} {lvE : List (Nat × Value)} (G : hd_C wd_ff2 wd_fl2 kh_freeStorm [kh_isStorm] kh_freeStorm_y l D tc ad kd N sm xs p s m args meth c sz) (H0 : as_in ad sm wd_fl2 xs S kh_freeStorm.2.2.2.2.2.1 xs (hd_0 kh_freeStorm) lvE [] S) {k : Nat} (ih : kh_freeStorm_I l D tc ad kd N sm xs S p e s m args below meth c sz k) : (∀ (α : List av_X) (lv : List (Nat × Value)) (st : List Value) (S1 : fw_S), as_in ad sm wd_fl2 xs S kh_freeStorm.2.2.2.2.2.1 α kh_freeStorm_a12.2.2.1 lv st S1 → ((∀ k : Nat, (k : Int) < nv α 1 → rwC S k ≠ -1) ∧ nv α 2 = b2i (¬ rwC S (nv α 1).toNat = -1)) → (4 - nv α 1).toNat * 3 < k + 1 → hd_WR R_freeStorm wd_fl2 kh_freeStorm kh_freeStorm_y l D tc ad kd N sm xs S p e s m args below meth c sz 12 lv st S1 0) := by
  have hx : xs.length = 1 := by rw [H0.2.1.1]; rfl
  intro α lv st S1 H hp hk
  obtain ⟨α1, hle, Hr⟩ := as_recM (pl := []) [] (by decide +kernel) H
  have hf := H.2.2.2.2.2.2.2.2.2.2.1
  have hl1 : α1.length = 3 := by rw [Hr.2.1.1]; rfl
  have hl0 : α.length = 3 := by rw [H.2.1.1]; rfl
  have hxa : al_le xs α1 := H.1.trans hle
  obtain ⟨g1, -, g3, g4, -⟩ := as_fx Hr
  have g0 : (794 ≤ nv α1 0 ∧ nv α1 0 ≤ 794) ∧ (0 ≤ nv α1 1 ∧ nv α1 1 ≤ 3) ∧ (0 ≤ nv α1 2 ∧ nv α1 2 ≤ 1) ∧ True := by
    refine ⟨by have h := (en_nv (i := 0) Hr.2.1 rfl).2; exact h, by have h := (en_nv (i := 1) Hr.2.1 rfl).2; exact h, by have h := (en_nv (i := 2) Hr.2.1 rfl).2; exact h, trivial⟩
  have r0 : nv α1 0 = nv α 0 := nv_le hle (by omega)
  have r1 : nv α1 1 = nv α 1 := nv_le hle (by omega)
  have r2 : nv α1 2 = nv α 2 := nv_le hle (by omega)
  refine hd_segMR G (na := 3) (fuel := 600) (first := true) (Bs := [kh_freeStorm_b12_0, kh_freeStorm_b12_1]) (by decide +kernel) hl1 Hr ?_
  intro q hq β lv' st' S' H1
  simp only [List.mem_cons, List.not_mem_nil, or_false] at hq
  rcases hq with rfl | rfl
  · obtain ⟨f1, f2, f3, f4, f5⟩ := as_fx H1
    simp only [kh_freeStorm_b12_0, Nat.reduceEqDiff, if_false, fx_env, fx_c, fx_ne, fx_hf, wl_S, Nat.zero_add, Nat.reduceAdd, Nat.reduceDiv, Nat.reduceMod, List.getElem?_cons_zero, List.getElem?_cons_succ, if_true, and_true, true_and] at f1 f2 f3 f4 f5
    have fe0 : nv β 0 = 794 := by omega
    have fe2 : nv β 2 = 1 := by omega
    try simp only [fe0, fe2, Int.reduceToNat] at f2 f3 f4 f5
    have s0 : nv β 0 = nv α1 0 := nv_le H1.1 (by omega)
    have s1 : nv β 1 = nv α1 1 := nv_le H1.1 (by omega)
    have s2 : nv β 2 = nv α1 2 := nv_le H1.1 (by omega)
    obtain ⟨α', Ha, hm⟩ := hd_gpM (q := kh_freeStorm_a2) (n := 0) (by decide +kernel) hx H1 (by decide +kernel) hxa hf
    have hfr := H1.2.2.2.2.2.2.2.2.2.2.1
    have m0 : nv α' 0 = nv β 0 := hm 0 0 rfl
    have m1 : nv α' 1 = nv β 3 := hm 1 3 rfl
    subst S'
    obtain ⟨p1, p2⟩ := hp
    unfold b2i at p2
    refine ih.1 _ _ _ _ Ha ?_ ?_
    · intro k hk
      rw [m1] at hk
      by_cases e : (k : Int) = nv α 1
      · rw [show k = (nv α 1).toNat by omega]
        intro g
        rw [if_neg (fun w => w g)] at p2
        omega
      · exact p1 k (by omega)
    · omega
  · obtain ⟨f1, f2, f3, f4, f5⟩ := as_fx H1
    simp only [kh_freeStorm_b12_1, Nat.reduceEqDiff, if_false, fx_env, fx_c, fx_ne, fx_hf, wl_S, Nat.zero_add, Nat.reduceAdd, Nat.reduceDiv, Nat.reduceMod, List.getElem?_cons_zero, List.getElem?_cons_succ, if_true, and_true, true_and] at f1 f2 f3 f4 f5
    have fe0 : nv β 0 = 794 := by omega
    have fe2 : nv β 2 = 0 := by omega
    try simp only [fe0, fe2, Int.reduceToNat] at f2 f3 f4 f5
    have s0 : nv β 0 = nv α1 0 := nv_le H1.1 (by omega)
    have s1 : nv β 1 = nv α1 1 := nv_le H1.1 (by omega)
    have s2 : nv β 2 = nv α1 2 := nv_le H1.1 (by omega)
    obtain ⟨p1, p2⟩ := hp
    unfold b2i at p2
    have g : rwC S (nv α 1).toNat = -1 := by
      by_cases g : rwC S (nv α 1).toNat = -1
      · exact g
      · rw [if_pos g] at p2; exfalso; omega
    have w := frS_lo (n := (nv α 1).toNat) (fun k hk => p1 k (by omega)) (by omega) g
    exact hd_retIR G (v := 1) (by decide +kernel) (as_backM H1 (by decide +kernel) hxa hf) _ List.mem_cons_self rfl (by decide +kernel) (by decide) (fun w hw => by cases hw) (fun y hy => ⟨y, rfl, by rw [hy, w]; omega⟩)
set_option maxHeartbeats 16000000 in
set_option maxRecDepth 8000 in
theorem kh_freeStorm_okR : ct_okR wd_fl2 kh_freeStorm R_freeStorm := ct_handR (R := R_freeStorm) (ff := wd_ff2) (y := kh_freeStorm_y) (Cs := [kh_isStorm]) wd_fl2_ok rfl (List.forall_mem_cons.mpr ⟨kh_isStorm_ok, (List.forall_mem_nil _)⟩) (by decide +kernel) (fun l D tc ad kd N sm xs S p e s m args below meth c sz lv G H0 => by
  have hx : xs.length = 1 := by rw [H0.2.1.1]; rfl
  have hP : ∀ (k : Nat), kh_freeStorm_I l D tc ad kd N sm xs S p e s m args below meth c sz k := by
    intro k
    induction k with
    | zero => exact ⟨fun _ _ _ _ _ _ h => absurd h (Nat.not_lt_zero _), fun _ _ _ _ _ _ h => absurd h (Nat.not_lt_zero _), fun _ _ _ _ _ _ h => absurd h (Nat.not_lt_zero _), trivial⟩
    | succ k ih => exact ⟨kh_freeStorm_h2 G H0 ih, kh_freeStorm_h9 G H0 ih, kh_freeStorm_h12 G H0 ih, trivial⟩
  obtain ⟨α1, hle, Hr⟩ := as_recM (pl := []) [] (by decide +kernel) H0
  have hf := H0.2.2.2.2.2.2.2.2.2.2.1
  have hl1 : α1.length = 1 := by rw [Hr.2.1.1]; rfl
  have hl0 : xs.length = 1 := by rw [H0.2.1.1]; rfl
  have hxa : al_le xs α1 := H0.1.trans hle
  obtain ⟨g1, -, g3, g4, -⟩ := as_fx Hr
  have g0 : (794 ≤ nv α1 0 ∧ nv α1 0 ≤ 794) ∧ True := by
    refine ⟨by have h := (en_nv (i := 0) Hr.2.1 rfl).2; exact h, trivial⟩
  have r0 : nv α1 0 = nv xs 0 := nv_le hle (by omega)
  refine hd_segMR G (na := 1) (fuel := 600) (first := true) (Bs := [kh_freeStorm_b0_0]) (by decide +kernel) hl1 Hr ?_
  intro q hq β lv' st' S' H1
  simp only [List.mem_cons, List.not_mem_nil, or_false] at hq
  rcases hq with rfl
  · obtain ⟨f1, f2, f3, f4, f5⟩ := as_fx H1
    simp only [kh_freeStorm_b0_0, Nat.reduceEqDiff, if_false, fx_env, fx_c, fx_ne, fx_hf, wl_S, Nat.zero_add, Nat.reduceAdd, Nat.reduceDiv, Nat.reduceMod, List.getElem?_cons_zero, List.getElem?_cons_succ, if_true, and_true, true_and] at f1 f2 f3 f4 f5
    have fe0 : nv β 0 = 794 := by omega
    have fe1 : nv β 1 = 0 := by omega
    try simp only [fe0, fe1, Int.reduceToNat] at f2 f3 f4 f5
    have s0 : nv β 0 = nv α1 0 := nv_le H1.1 (by omega)
    obtain ⟨α', Ha, hm⟩ := hd_gpM (q := kh_freeStorm_a2) (n := 0) (by decide +kernel) hx H1 (by decide +kernel) hxa hf
    have hfr := H1.2.2.2.2.2.2.2.2.2.2.1
    have m0 : nv α' 0 = nv β 0 := hm 0 0 rfl
    have m1 : nv α' 1 = nv β 1 := hm 1 1 rfl
    subst S'
    refine (hP _).1 _ _ _ _ Ha ?_ (Nat.lt_succ_self _)
    · intro k hk; rw [m1] at hk; omega)
theorem kh_freeStorm_ok : ct_ok wd_fl2 kh_freeStorm := ct_okR_ok kh_freeStorm_okR
abbrev kh_tellStorm_y : mt_T := (⟨"UtilityWorks$Sky", "tellStorm", "(III)V"⟩, prog_8_method_10_code, 4, none, 6, 1, 3, 31070, 31068, 31069, 21013)
def kh_tellStorm : ct_T := (320, [(2, 794, 794, 1), (0, 0, 3, 1), (0, 0, 2, 1), (0, 1, 9, 1)], [], [], [(0, (0, 0, 0, 0), [(2, 794, 794, 1), (0, 0, 3, 1), (0, 0, 2, 1), (0, 1, 9, 1)], [], ([], []))], [((796, 799), (0, 0, 0)), ((796, 799), (1, 1, 0)), ((796, 799), (2, 2, 0)), ((796, 799), (3, 3, 0))], 0, 0, 0)
def kh_tellStorm_b0_0 : sg_T := (36, 0, ([((2, 794, 794, 1), none), ((0, 0, 3, 1), none), ((0, 0, 2, 1), none), ((0, 1, 9, 1), none), ((2, 795, 795, 1), none), ((2, 796, 799, 1), none), ((0, 0, 0, 0), none), ((2, 795, 795, 1), none), ((0, 1, 1, 0), none), ((2, 795, 795, 1), none), ((0, 2, 2, 0), none), ((0, (-1), (-1), 0), none), ((2, 795, 795, 1), none), ((0, 3, 3, 0), none), ((0, 0, 0, 0), none)], [(0, 0), (1, 1), (2, 2), (3, 3)], [], [(5, 13, 14), (5, 10, 11), (5, 8, 3), (5, 6, 2), (4, 1, 5)], [], [], [], [], some [(5, 13, 14), (5, 10, 11), (5, 8, 3), (5, 6, 2)]))
set_option maxHeartbeats 16000000 in
set_option maxRecDepth 8000 in
theorem kh_tellStorm_okR : ct_okR wd_fl2 kh_tellStorm R_tellStorm := ct_handR (R := R_tellStorm) (ff := wd_ff2) (y := kh_tellStorm_y) (Cs := []) wd_fl2_ok rfl (List.forall_mem_nil _) (by decide +kernel) (fun l D tc ad kd N sm xs S p e s m args below meth c sz lv G H0 => by
  have hx : xs.length = 4 := by rw [H0.2.1.1]; rfl
  obtain ⟨α1, hle, Hr⟩ := as_recM (pl := []) [((796, 799), (0, 0, 0)), ((796, 799), (1, 1, 0)), ((796, 799), (2, 2, 0)), ((796, 799), (3, 3, 0))] (by decide +kernel) H0
  have hf := H0.2.2.2.2.2.2.2.2.2.2.1
  have hl1 : α1.length = 4 := by rw [Hr.2.1.1]; rfl
  have hl0 : xs.length = 4 := by rw [H0.2.1.1]; rfl
  have hxa : al_le xs α1 := H0.1.trans hle
  obtain ⟨g1, -, g3, g4, -⟩ := as_fx Hr
  have g0 : (794 ≤ nv α1 0 ∧ nv α1 0 ≤ 794) ∧ (0 ≤ nv α1 1 ∧ nv α1 1 ≤ 3) ∧ (0 ≤ nv α1 2 ∧ nv α1 2 ≤ 2) ∧ (1 ≤ nv α1 3 ∧ nv α1 3 ≤ 9) ∧ True := by
    refine ⟨by have h := (en_nv (i := 0) Hr.2.1 rfl).2; exact h, by have h := (en_nv (i := 1) Hr.2.1 rfl).2; exact h, by have h := (en_nv (i := 2) Hr.2.1 rfl).2; exact h, by have h := (en_nv (i := 3) Hr.2.1 rfl).2; exact h, trivial⟩
  have r0 : nv α1 0 = nv xs 0 := nv_le hle (by omega)
  have r1 : nv α1 1 = nv xs 1 := nv_le hle (by omega)
  have r2 : nv α1 2 = nv xs 2 := nv_le hle (by omega)
  have r3 : nv α1 3 = nv xs 3 := nv_le hle (by omega)
  refine hd_segMR G (na := 4) (fuel := 600) (first := true) (Bs := [kh_tellStorm_b0_0]) (by decide +kernel) hl1 Hr ?_
  intro q hq β lv' st' S' H1
  simp only [List.mem_cons, List.not_mem_nil, or_false] at hq
  rcases hq with rfl
  · obtain ⟨f1, f2, f3, f4, f5⟩ := as_fx H1
    simp only [kh_tellStorm_b0_0, Nat.reduceEqDiff, if_false, fx_env, fx_c, fx_ne, fx_hf, wl_S, Nat.zero_add, Nat.reduceAdd, Nat.reduceDiv, Nat.reduceMod, List.getElem?_cons_zero, List.getElem?_cons_succ, if_true, and_true, true_and] at f1 f2 f3 f4 f5
    have fe0 : nv β 0 = 794 := by omega
    have fe4 : nv β 4 = 795 := by omega
    have fe6 : nv β 6 = 0 := by omega
    have fe7 : nv β 7 = 795 := by omega
    have fe8 : nv β 8 = 1 := by omega
    have fe9 : nv β 9 = 795 := by omega
    have fe10 : nv β 10 = 2 := by omega
    have fe11 : nv β 11 = (-1) := by omega
    have fe12 : nv β 12 = 795 := by omega
    have fe13 : nv β 13 = 3 := by omega
    have fe14 : nv β 14 = 0 := by omega
    try simp only [fe0, fe4, fe6, fe7, fe8, fe9, fe10, fe11, fe12, fe13, fe14, Int.reduceToNat] at f2 f3 f4 f5
    have s0 : nv β 0 = nv α1 0 := nv_le H1.1 (by omega)
    have s1 : nv β 1 = nv α1 1 := nv_le H1.1 (by omega)
    have s2 : nv β 2 = nv α1 2 := nv_le H1.1 (by omega)
    have s3 : nv β 3 = nv α1 3 := nv_le H1.1 (by omega)
    have rt5 := hf_rt (c := 795) (lo := 0) (hi := 3) (base := 796) (rv := 4) (iv := 1) (n := 5) (by decide +kernel) (by decide +kernel) H1 (by decide +kernel) (by omega) (by omega) (by omega)
    have wA : ∀ a b : Nat, S'.1 a b = (if a = (nv β 5).toNat ∧ b = 3 then Int32.ofInt (0) else (if a = (nv β 5).toNat ∧ b = 2 then Int32.ofInt ((-1)) else (if a = (nv β 5).toNat ∧ b = 1 then Int32.ofInt (nv β 3) else (if a = (nv β 5).toNat ∧ b = 0 then Int32.ofInt (nv β 2) else (S.1 a b))))) := fun a b => by rw [f5]; rfl
    exact hd_retVR G (by decide +kernel) (as_backM H1 (by decide +kernel) hxa hf) (by decide +kernel) (by decide) (by
      refine skC_ext (by rw [wA]; (repeat' split) <;> first | (exfalso; omega) | rfl | (rw [i32_of (by omega) (by omega)] <;> omega) | omega) (by rw [wA]; (repeat' split) <;> first | (exfalso; omega) | rfl | (rw [i32_of (by omega) (by omega)] <;> omega) | omega) (by rw [wA]; (repeat' split) <;> first | (exfalso; omega) | rfl | (rw [i32_of (by omega) (by omega)] <;> omega) | omega) (fun k => ?_) (fun k => ?_)
      · show _ = if (k : Int) = nv xs 1 then nv xs 2 else (if k < 4 then (S.1 (796 + k) 0).toInt else 0)
        rw [wA]
        (repeat' split) <;> first | (exfalso; omega) | rfl | (rw [i32_of (by omega) (by omega)] <;> omega) | omega
      · show _ = if (k : Int) = nv xs 1 then -1 else (if k < 4 then (S.1 (796 + k) 2).toInt else 0)
        rw [wA]
        (repeat' split) <;> first | (exfalso; omega) | rfl | (rw [i32_of (by omega) (by omega)] <;> omega) | omega))
theorem kh_tellStorm_ok : ct_ok wd_fl2 kh_tellStorm := ct_okR_ok kh_tellStorm_okR
/- UtilityWorks isWithin -/
def kh_1213 : ct_T := (100, [(0, (-30), 40, 1), (0, (-30), (-30), 0), (0, 40, 40, 0)], [], [], [(1, (0, 1, 1, 0), [(0, (-30), 40, 1), (0, (-30), (-30), 0), (0, 40, 40, 0)], [], ([], []))], [], 0, 0, 0)
theorem kh_1213_ok : ct_ok wd_fl2 kh_1213 := ct_of (ff := wd_ff2) (y := (⟨"UtilityWorks", "isWithin", "(III)Z"⟩, prog_1_method_118_code, 3, some .boolean, 11, 0, 3, 25188, 25187, 0, 21001)) (Cs := []) (an := []) (ss := []) (K := 1) (fuel := 4000) wd_fl2_ok rfl (List.forall_mem_nil _) (by decide +kernel)
/- UtilityWorks isWithin -/
def kh_1214 : ct_T := (100, [(0, 0, 9, 1), (0, 0, 0, 0), (0, 9, 9, 0)], [], [], [(1, (0, 1, 1, 0), [(0, 0, 9, 1), (0, 0, 0, 0), (0, 9, 9, 0)], [], ([], []))], [], 0, 0, 0)
theorem kh_1214_ok : ct_ok wd_fl2 kh_1214 := ct_of (ff := wd_ff2) (y := (⟨"UtilityWorks", "isWithin", "(III)Z"⟩, prog_1_method_118_code, 3, some .boolean, 11, 0, 3, 25188, 25187, 0, 21001)) (Cs := []) (an := []) (ss := []) (K := 1) (fuel := 4000) wd_fl2_ok rfl (List.forall_mem_nil _) (by decide +kernel)
abbrev kh_uWeather_y : mt_T := (⟨"UtilityWorks", "weather", "(III)I"⟩, prog_1_method_103_code, 5, some .int, 11, 1, 3, 31043, 31041, 31042, 21001)
def kh_uWeather : ct_T := (315, [(2, 0, 0, 0), (0, (-30), 40, 1), (0, 0, 9, 1), (0, 0, 9, 1)], [], [520, 521, 522], [(1, (0, (-30), 40, 1), [(2, 0, 0, 0), (0, (-30), 40, 1), (0, 0, 9, 1), (0, 0, 9, 1)], [], ([520, 521, 522], []))], [((794, 794), (0, 0, 0)), ((794, 794), (1, 1, 0)), ((794, 794), (2, 2, 0)), ((794, 794), (3, 3, 0))], 7, 101, 1)
def kh_uWeather_b0_0 : sg_T := (97, 1, ([((2, 0, 0, 0), none), ((0, (-30), 40, 1), none), ((0, 0, 9, 1), none), ((0, 0, 9, 1), none), ((0, (-30), (-30), 0), none), ((0, 40, 40, 0), none), ((0, 1, 1, 0), none), ((0, 0, 0, 0), none), ((0, 9, 9, 0), none), ((0, 1, 1, 0), none), ((0, 0, 0, 0), none), ((0, 9, 9, 0), none), ((0, 1, 1, 0), none), ((0, 1, 1, 0), none), ((2, 1, 1, 1), none), ((2, 794, 794, 1), none), ((0, 0, 0, 0), none), ((0, (-30), 40, 1), none), ((2, 1, 1, 1), none), ((2, 794, 794, 1), none), ((0, 0, 0, 0), none), ((2, 1, 1, 1), none), ((2, 794, 794, 1), none), ((0, 1, 1, 0), none), ((2, 1, 1, 1), none), ((2, 794, 794, 1), none), ((0, 2, 2, 0), none), ((2, 1, 1, 1), none), ((2, 794, 794, 1), none), ((0, 0, 0, 0), none), ((0, 3, 3, 0), none)], [(4, 17), (0, 0), (1, 1), (2, 2), (3, 3)], [17], [(28, 30, 29), (25, 26, 3), (22, 23, 2), (19, 20, 1)], [(12, 0), (9, 0), (6, 0)], [(800017, 15, 16)], [], [520, 521, 522], some [(28, 30, 29), (25, 26, 3), (22, 23, 2), (19, 20, 1)]))
set_option maxHeartbeats 16000000 in
set_option maxRecDepth 8000 in
theorem kh_uWeather_okR : ct_okR wd_fl2 kh_uWeather R_weather := ct_handR (R := R_weather) (ff := wd_ff2) (y := kh_uWeather_y) (Cs := [kh_1213, kh_1214, kh_needRange]) wd_fl2_ok rfl (List.forall_mem_cons.mpr ⟨kh_1213_ok, (List.forall_mem_cons.mpr ⟨kh_1214_ok, (List.forall_mem_cons.mpr ⟨kh_needRange_ok, (List.forall_mem_nil _)⟩)⟩)⟩) (by decide +kernel) (fun l D tc ad kd N sm xs S p e s m args below meth c sz lv G H0 => by
  have hx : xs.length = 4 := by rw [H0.2.1.1]; rfl
  obtain ⟨α1, hle, Hr⟩ := as_recM (pl := []) [((794, 794), (0, 0, 0)), ((794, 794), (1, 1, 0)), ((794, 794), (2, 2, 0)), ((794, 794), (3, 3, 0))] (by decide +kernel) H0
  have hf := H0.2.2.2.2.2.2.2.2.2.2.1
  have hl1 : α1.length = 4 := by rw [Hr.2.1.1]; rfl
  have hl0 : xs.length = 4 := by rw [H0.2.1.1]; rfl
  have hxa : al_le xs α1 := H0.1.trans hle
  obtain ⟨g1, -, g3, g4, -⟩ := as_fx Hr
  have g0 : (0 ≤ nv α1 0 ∧ nv α1 0 ≤ 0) ∧ ((-30) ≤ nv α1 1 ∧ nv α1 1 ≤ 40) ∧ (0 ≤ nv α1 2 ∧ nv α1 2 ≤ 9) ∧ (0 ≤ nv α1 3 ∧ nv α1 3 ≤ 9) ∧ True := by
    refine ⟨by have h := (en_nv (i := 0) Hr.2.1 rfl).2; exact h, by have h := (en_nv (i := 1) Hr.2.1 rfl).2; exact h, by have h := (en_nv (i := 2) Hr.2.1 rfl).2; exact h, by have h := (en_nv (i := 3) Hr.2.1 rfl).2; exact h, trivial⟩
  have r0 : nv α1 0 = nv xs 0 := nv_le hle (by omega)
  have r1 : nv α1 1 = nv xs 1 := nv_le hle (by omega)
  have r2 : nv α1 2 = nv xs 2 := nv_le hle (by omega)
  have r3 : nv α1 3 = nv xs 3 := nv_le hle (by omega)
  refine hd_segMR G (na := 4) (fuel := 600) (first := true) (Bs := [kh_uWeather_b0_0]) (by decide +kernel) hl1 Hr ?_
  intro q hq β lv' st' S' H1
  simp only [List.mem_cons, List.not_mem_nil, or_false] at hq
  rcases hq with rfl
  · obtain ⟨f1, f2, f3, f4, f5⟩ := as_fx H1
    simp only [kh_uWeather_b0_0, Nat.reduceEqDiff, if_false, fx_env, fx_c, fx_ne, fx_hf, wl_S, Nat.zero_add, Nat.reduceAdd, Nat.reduceDiv, Nat.reduceMod, List.getElem?_cons_zero, List.getElem?_cons_succ, if_true, and_true, true_and] at f1 f2 f3 f4 f5
    have fe0 : nv β 0 = 0 := by omega
    have fe4 : nv β 4 = (-30) := by omega
    have fe5 : nv β 5 = 40 := by omega
    have fe6 : nv β 6 = 1 := by omega
    have fe7 : nv β 7 = 0 := by omega
    have fe8 : nv β 8 = 9 := by omega
    have fe9 : nv β 9 = 1 := by omega
    have fe10 : nv β 10 = 0 := by omega
    have fe11 : nv β 11 = 9 := by omega
    have fe12 : nv β 12 = 1 := by omega
    have fe13 : nv β 13 = 1 := by omega
    have fe14 : nv β 14 = 1 := by omega
    have fe15 : nv β 15 = 794 := by omega
    have fe16 : nv β 16 = 0 := by omega
    have fe18 : nv β 18 = 1 := by omega
    have fe19 : nv β 19 = 794 := by omega
    have fe20 : nv β 20 = 0 := by omega
    have fe21 : nv β 21 = 1 := by omega
    have fe22 : nv β 22 = 794 := by omega
    have fe23 : nv β 23 = 1 := by omega
    have fe24 : nv β 24 = 1 := by omega
    have fe25 : nv β 25 = 794 := by omega
    have fe26 : nv β 26 = 2 := by omega
    have fe27 : nv β 27 = 1 := by omega
    have fe28 : nv β 28 = 794 := by omega
    have fe29 : nv β 29 = 0 := by omega
    have fe30 : nv β 30 = 3 := by omega
    try simp only [fe0, fe4, fe5, fe6, fe7, fe8, fe9, fe10, fe11, fe12, fe13, fe14, fe15, fe16, fe18, fe19, fe20, fe21, fe22, fe23, fe24, fe25, fe26, fe27, fe28, fe29, fe30, Int.reduceToNat] at f2 f3 f4 f5
    have s0 : nv β 0 = nv α1 0 := nv_le H1.1 (by omega)
    have s1 : nv β 1 = nv α1 1 := nv_le H1.1 (by omega)
    have s2 : nv β 2 = nv α1 2 := nv_le H1.1 (by omega)
    have s3 : nv β 3 = nv α1 3 := nv_le H1.1 (by omega)
    have c0 := f2
    have o0 := old_i c0 (en_nv (i := 17) H1.2.1 rfl).1
    have wA : ∀ a b : Nat, S'.1 a b = (if a = 794 ∧ b = 3 then Int32.ofInt (0) else (if a = 794 ∧ b = 2 then Int32.ofInt (nv β 3) else (if a = 794 ∧ b = 1 then Int32.ofInt (nv β 2) else (if a = 794 ∧ b = 0 then Int32.ofInt (nv β 1) else (S.1 a b))))) := fun a b => by rw [f5]; rfl
    exact hd_retIR G (v := 17) (by decide +kernel) (as_backM H1 (by decide +kernel) hxa hf) _ List.mem_cons_self rfl (by decide +kernel) (by decide) (fun w hw => by cases hw) (fun y hy => ⟨⟨y, rfl, by rw [hy, ← o0]; rfl⟩, by
      refine skC_ext (by (try dsimp only); rw [wA]; (repeat' split) <;> first | (exfalso; omega) | rfl | (rw [i32_of (by omega) (by omega)] <;> omega) | omega) (by (try dsimp only); rw [wA]; (repeat' split) <;> first | (exfalso; omega) | rfl | (rw [i32_of (by omega) (by omega)] <;> omega) | omega) (by (try dsimp only); rw [wA]; (repeat' split) <;> first | (exfalso; omega) | rfl | (rw [i32_of (by omega) (by omega)] <;> omega) | omega) (fun k => ?_) (fun k => ?_)
      · show _ = (if k < 4 then (S.1 (796 + k) 0).toInt else 0)
        rw [wA]
        (repeat' split) <;> first | (exfalso; omega) | rfl | (rw [i32_of (by omega) (by omega)] <;> omega) | omega
      · show _ = (if k < 4 then (S.1 (796 + k) 2).toInt else 0)
        rw [wA]
        (repeat' split) <;> first | (exfalso; omega) | rfl | (rw [i32_of (by omega) (by omega)] <;> omega) | omega⟩))
theorem kh_uWeather_ok : ct_ok wd_fl2 kh_uWeather := ct_okR_ok kh_uWeather_okR
/- UtilityWorks isWithin -/
def kh_1215 : ct_T := (100, [(0, 0, 65536, 1), (0, 0, 0, 0), (0, 65536, 65536, 0)], [], [], [(1, (0, 1, 1, 0), [(0, 0, 65536, 1), (0, 0, 0, 0), (0, 65536, 65536, 0)], [], ([], []))], [], 0, 0, 0)
theorem kh_1215_ok : ct_ok wd_fl2 kh_1215 := ct_of (ff := wd_ff2) (y := (⟨"UtilityWorks", "isWithin", "(III)Z"⟩, prog_1_method_118_code, 3, some .boolean, 11, 0, 3, 25188, 25187, 0, 21001)) (Cs := []) (an := []) (ss := []) (K := 1) (fuel := 4000) wd_fl2_ok rfl (List.forall_mem_nil _) (by decide +kernel)
abbrev kh_uDraws_y : mt_T := (⟨"UtilityWorks", "draws", "(I)I"⟩, prog_1_method_104_code, 3, some .int, 11, 1, 1, 31050, 31048, 31049, 21001)
def kh_uDraws : ct_T := (316, [(2, 0, 0, 0), (0, 0, 65536, 1)], [], [520, 521, 522], [(1, (0, 0, 65536, 1), [(2, 0, 0, 0), (0, 0, 65536, 1)], [], ([520, 521, 522], []))], [((794, 794), (3, 3, 0)), ((794, 794), (4, 4, 0))], 7, 101, 1)
def kh_uDraws_b0_0 : sg_T := (45, 1, ([((2, 0, 0, 0), none), ((0, 0, 65536, 1), none), ((0, 0, 0, 0), none), ((0, 65536, 65536, 0), none), ((0, 1, 1, 0), none), ((2, 1, 1, 1), none), ((2, 794, 794, 1), none), ((0, 4, 4, 0), none), ((0, 0, 65536, 1), none), ((2, 1, 1, 1), none), ((2, 794, 794, 1), none), ((0, 4, 4, 0), none), ((2, 1, 1, 1), none), ((2, 794, 794, 1), none), ((0, 1, 1, 0), none), ((0, 3, 3, 0), none)], [(2, 8), (0, 0), (1, 1)], [8], [(13, 15, 14), (10, 11, 1)], [], [(800008, 6, 7)], [], [520, 521, 522], some [(13, 15, 14), (10, 11, 1)]))
set_option maxHeartbeats 16000000 in
set_option maxRecDepth 8000 in
theorem kh_uDraws_okR : ct_okR wd_fl2 kh_uDraws R_draws := ct_handR (R := R_draws) (ff := wd_ff2) (y := kh_uDraws_y) (Cs := [kh_1215, kh_needRange]) wd_fl2_ok rfl (List.forall_mem_cons.mpr ⟨kh_1215_ok, (List.forall_mem_cons.mpr ⟨kh_needRange_ok, (List.forall_mem_nil _)⟩)⟩) (by decide +kernel) (fun l D tc ad kd N sm xs S p e s m args below meth c sz lv G H0 => by
  have hx : xs.length = 2 := by rw [H0.2.1.1]; rfl
  obtain ⟨α1, hle, Hr⟩ := as_recM (pl := []) [((794, 794), (3, 3, 0)), ((794, 794), (4, 4, 0))] (by decide +kernel) H0
  have hf := H0.2.2.2.2.2.2.2.2.2.2.1
  have hl1 : α1.length = 2 := by rw [Hr.2.1.1]; rfl
  have hl0 : xs.length = 2 := by rw [H0.2.1.1]; rfl
  have hxa : al_le xs α1 := H0.1.trans hle
  obtain ⟨g1, -, g3, g4, -⟩ := as_fx Hr
  have g0 : (0 ≤ nv α1 0 ∧ nv α1 0 ≤ 0) ∧ (0 ≤ nv α1 1 ∧ nv α1 1 ≤ 65536) ∧ True := by
    refine ⟨by have h := (en_nv (i := 0) Hr.2.1 rfl).2; exact h, by have h := (en_nv (i := 1) Hr.2.1 rfl).2; exact h, trivial⟩
  have r0 : nv α1 0 = nv xs 0 := nv_le hle (by omega)
  have r1 : nv α1 1 = nv xs 1 := nv_le hle (by omega)
  refine hd_segMR G (na := 2) (fuel := 600) (first := true) (Bs := [kh_uDraws_b0_0]) (by decide +kernel) hl1 Hr ?_
  intro q hq β lv' st' S' H1
  simp only [List.mem_cons, List.not_mem_nil, or_false] at hq
  rcases hq with rfl
  · obtain ⟨f1, f2, f3, f4, f5⟩ := as_fx H1
    simp only [kh_uDraws_b0_0, Nat.reduceEqDiff, if_false, fx_env, fx_c, fx_ne, fx_hf, wl_S, Nat.zero_add, Nat.reduceAdd, Nat.reduceDiv, Nat.reduceMod, List.getElem?_cons_zero, List.getElem?_cons_succ, if_true, and_true, true_and] at f1 f2 f3 f4 f5
    have fe0 : nv β 0 = 0 := by omega
    have fe2 : nv β 2 = 0 := by omega
    have fe3 : nv β 3 = 65536 := by omega
    have fe4 : nv β 4 = 1 := by omega
    have fe5 : nv β 5 = 1 := by omega
    have fe6 : nv β 6 = 794 := by omega
    have fe7 : nv β 7 = 4 := by omega
    have fe9 : nv β 9 = 1 := by omega
    have fe10 : nv β 10 = 794 := by omega
    have fe11 : nv β 11 = 4 := by omega
    have fe12 : nv β 12 = 1 := by omega
    have fe13 : nv β 13 = 794 := by omega
    have fe14 : nv β 14 = 1 := by omega
    have fe15 : nv β 15 = 3 := by omega
    try simp only [fe0, fe2, fe3, fe4, fe5, fe6, fe7, fe9, fe10, fe11, fe12, fe13, fe14, fe15, Int.reduceToNat] at f2 f3 f4 f5
    have s0 : nv β 0 = nv α1 0 := nv_le H1.1 (by omega)
    have s1 : nv β 1 = nv α1 1 := nv_le H1.1 (by omega)
    have c0 := f2
    have o0 := old_i c0 (en_nv (i := 8) H1.2.1 rfl).1
    have wA : ∀ a b : Nat, S'.1 a b = (if a = 794 ∧ b = 3 then Int32.ofInt (1) else (if a = 794 ∧ b = 4 then Int32.ofInt (nv β 1) else (S.1 a b))) := fun a b => by rw [f5]; rfl
    exact hd_retIR G (v := 8) (by decide +kernel) (as_backM H1 (by decide +kernel) hxa hf) _ List.mem_cons_self rfl (by decide +kernel) (by decide) (fun w hw => by cases hw) (fun y hy => ⟨⟨y, rfl, by rw [hy, ← o0]; rfl⟩, by
      refine skC_ext (by (try dsimp only); rw [wA]; (repeat' split) <;> first | (exfalso; omega) | rfl | (rw [i32_of (by omega) (by omega)] <;> omega) | omega) (by (try dsimp only); rw [wA]; (repeat' split) <;> first | (exfalso; omega) | rfl | (rw [i32_of (by omega) (by omega)] <;> omega) | omega) (by (try dsimp only); rw [wA]; (repeat' split) <;> first | (exfalso; omega) | rfl | (rw [i32_of (by omega) (by omega)] <;> omega) | omega) (fun k => ?_) (fun k => ?_)
      · show _ = (if k < 4 then (S.1 (796 + k) 0).toInt else 0)
        rw [wA]
        (repeat' split) <;> first | (exfalso; omega) | rfl | (rw [i32_of (by omega) (by omega)] <;> omega) | omega
      · show _ = (if k < 4 then (S.1 (796 + k) 2).toInt else 0)
        rw [wA]
        (repeat' split) <;> first | (exfalso; omega) | rfl | (rw [i32_of (by omega) (by omega)] <;> omega) | omega⟩))
theorem kh_uDraws_ok : ct_ok wd_fl2 kh_uDraws := ct_okR_ok kh_uDraws_okR
/- UtilityWorks isWithin -/
def kh_1216 : ct_T := (100, [(0, 0, 2, 1), (0, 0, 0, 0), (0, 2, 2, 0)], [], [], [(1, (0, 1, 1, 0), [(0, 0, 2, 1), (0, 0, 0, 0), (0, 2, 2, 0)], [], ([], []))], [], 0, 0, 0)
theorem kh_1216_ok : ct_ok wd_fl2 kh_1216 := ct_of (ff := wd_ff2) (y := (⟨"UtilityWorks", "isWithin", "(III)Z"⟩, prog_1_method_118_code, 3, some .boolean, 11, 0, 3, 25188, 25187, 0, 21001)) (Cs := []) (an := []) (ss := []) (K := 1) (fuel := 4000) wd_fl2_ok rfl (List.forall_mem_nil _) (by decide +kernel)
/- UtilityWorks isWithin -/
def kh_1217 : ct_T := (100, [(0, 1, 9, 1), (0, 1, 1, 0), (0, 9, 9, 0)], [], [], [(1, (0, 1, 1, 0), [(0, 1, 9, 1), (0, 1, 1, 0), (0, 9, 9, 0)], [], ([], []))], [], 0, 0, 0)
theorem kh_1217_ok : ct_ok wd_fl2 kh_1217 := ct_of (ff := wd_ff2) (y := (⟨"UtilityWorks", "isWithin", "(III)Z"⟩, prog_1_method_118_code, 3, some .boolean, 11, 0, 3, 25188, 25187, 0, 21001)) (Cs := []) (an := []) (ss := []) (K := 1) (fuel := 4000) wd_fl2_ok rfl (List.forall_mem_nil _) (by decide +kernel)
abbrev kh_uStorm_y : mt_T := (⟨"UtilityWorks", "storm", "(II)I"⟩, prog_1_method_105_code, 4, some .int, 11, 1, 2, 31058, 31056, 31057, 21001)
def kh_uStorm : ct_T := (317, [(2, 0, 0, 0), (0, 0, 2, 1), (0, 1, 9, 1)], [], [520, 521, 522], [(1, (0, (-1), 3, 1), [(2, 0, 0, 0), (0, 0, 2, 1), (0, 1, 9, 1)], [], ([520, 521, 522], [])), (3, (0, 0, 0, 0), [(2, 0, 0, 0), (0, 0, 2, 1), (0, 1, 9, 1)], [], ([520, 521, 522], []))], [((796, 799), (0, 0, 0)), ((796, 799), (1, 1, 0)), ((796, 799), (2, 2, 0)), ((796, 799), (3, 3, 0))], 7, 101, 2)
def kh_uStorm_X48 : List cs_T := [(3, (0, 0, 0, 0), [(2, 0, 0, 0), (0, 0, 2, 1), (0, 1, 9, 1), (0, (-1), 3, 1), (0, 0, 0, 1)], [], ([520, 521, 522], []))]
def kh_uStorm_a34 : an_T := (34, 1, ([((2, 0, 0, 0), none), ((0, 0, 2, 1), none), ((0, 1, 9, 1), none), ((2, 794, 794, 1), none)], [(0, 0), (1, 1), (2, 2)], [3], [], [], [], [], [520, 521, 522], none), [])
def kh_uStorm_a37 : an_T := (37, 1, ([((2, 0, 0, 0), none), ((0, 0, 2, 1), none), ((0, 1, 9, 1), none), ((0, (-1), 3, 1), none)], [(0, 0), (1, 1), (2, 2)], [3], [], [], [], [], [520, 521, 522], none), [])
def kh_uStorm_a48 : an_T := (48, 1, ([((2, 0, 0, 0), none), ((0, 0, 2, 1), none), ((0, 1, 9, 1), none), ((0, (-1), 3, 1), none), ((0, 0, 1, 1), none)], [(0, 0), (1, 1), (2, 2), (3, 3)], [4], [], [], [], [], [520, 521, 522], none), [])
def kh_uStorm_a61 : an_T := (61, 2, ([((2, 0, 0, 0), none), ((0, 0, 2, 1), none), ((0, 1, 9, 1), none), ((0, (-1), 3, 1), none), ((0, (-1), 3, 1), none), ((2, 794, 794, 1), none)], [(0, 0), (1, 1), (2, 2), (3, 3)], [2, 1, 4, 5], [], [], [], [], [520, 521, 522], none), [])
def kh_uStorm_a64 : an_T := (64, 2, ([((2, 0, 0, 0), none), ((0, 0, 2, 1), none), ((0, 1, 9, 1), none), ((0, (-1), 3, 1), none)], [(0, 0), (1, 1), (2, 2), (3, 3)], [], [], [], [], [], [520, 521, 522], none), [])
def kh_uStorm_b0_0 : sg_T := (34, 1, ([((2, 0, 0, 0), none), ((0, 0, 2, 1), none), ((0, 1, 9, 1), none), ((0, 0, 0, 0), none), ((0, 2, 2, 0), none), ((0, 1, 1, 0), none), ((0, 1, 1, 0), none), ((0, 9, 9, 0), none), ((0, 1, 1, 0), none), ((0, 1, 1, 0), none), ((2, 1, 1, 1), none), ((2, 794, 794, 1), none)], [(0, 0), (1, 1), (2, 2)], [11], [], [(8, 0), (5, 0)], [], [], [520, 521, 522], some []))
def kh_uStorm_b34_0 : sg_T := (37, 1, ([((2, 0, 0, 0), none), ((0, 0, 2, 1), none), ((0, 1, 9, 1), none), ((2, 794, 794, 1), none), ((0, (-1), 3, 1), none)], [(0, 0), (1, 1), (2, 2)], [4], [], [], [], [], [520, 521, 522], some []))
def kh_uStorm_b37_0 : sg_T := (48, 1, ([((2, 0, 0, 0), none), ((0, 0, 2, 1), none), ((0, 1, 9, 1), none), ((0, (-1), (-1), 1), none), ((0, (-1), (-1), 0), none), ((0, 0, 0, 0), none)], [(3, 3), (0, 0), (1, 1), (2, 2)], [5], [], [], [(300000, 3, 4)], [], [520, 521, 522], some []))
def kh_uStorm_b37_1 : sg_T := (48, 1, ([((2, 0, 0, 0), none), ((0, 0, 2, 1), none), ((0, 1, 9, 1), none), ((0, 0, 3, 1), none), ((0, (-1), (-1), 0), none), ((0, 1, 1, 0), none)], [(3, 3), (0, 0), (1, 1), (2, 2)], [5], [], [(3, (-1))], [(400000, 3, 4)], [], [520, 521, 522], some []))
def kh_uStorm_b48_0 : sg_T := (61, 2, ([((2, 0, 0, 0), none), ((0, 0, 2, 1), none), ((0, 1, 9, 1), none), ((0, (-1), 3, 1), none), ((0, 1, 1, 1), none), ((2, 1, 1, 1), none), ((2, 794, 794, 1), none)], [(0, 0), (1, 1), (2, 2), (3, 3)], [2, 1, 3, 6], [], [], [], [], [520, 521, 522], some []))
def kh_uStorm_b61_0 : sg_T := (64, 2, ([((2, 0, 0, 0), none), ((0, 0, 2, 1), none), ((0, 1, 9, 1), none), ((0, (-1), 3, 1), none), ((0, 0, 3, 1), none), ((2, 794, 794, 1), none)], [(0, 0), (1, 1), (2, 2), (3, 3)], [], [], [], [], [], [520, 521, 522], none))
def kh_uStorm_b64_0 : sg_T := (65, 2, ([((2, 0, 0, 0), none), ((0, 0, 2, 1), none), ((0, 1, 9, 1), none), ((0, (-1), 3, 1), none)], [(0, 0), (1, 1), (2, 2), (3, 3)], [3], [], [], [], [], [520, 521, 522], some []))
def kh_uStorm_I (l : Launch) (D : va_G) (tc : Nat → ClassId) (ad : Nat → Nat) (kd : Nat → Nat × Nat) (N : Nat) (sm : Nat → Nat) (xs : List av_X) (S : fw_S) (p : Program) (e : Env) (s : State) (m : MethodId) (args : Array Value) (below : List Frame) (meth : Method) (c : Code) (sz : Nat) (k : Nat) : Prop := (∀ (α : List av_X) (lv : List (Nat × Value)) (st : List Value) (S1 : fw_S), as_in ad sm wd_fl2 xs S kh_uStorm.2.2.2.2.2.1 α kh_uStorm_a34.2.2.1 lv st S1 → (S1 = S) → 9 < k → hd_WR R_storm wd_fl2 kh_uStorm kh_uStorm_y l D tc ad kd N sm xs S p e s m args below meth c sz 34 lv st S1 1) ∧ (∀ (α : List av_X) (lv : List (Nat × Value)) (st : List Value) (S1 : fw_S), as_in ad sm wd_fl2 xs S kh_uStorm.2.2.2.2.2.1 α kh_uStorm_a37.2.2.1 lv st S1 → (S1 = S ∧ nv α 3 = frS (rwC S)) → 8 < k → hd_WR R_storm wd_fl2 kh_uStorm kh_uStorm_y l D tc ad kd N sm xs S p e s m args below meth c sz 37 lv st S1 1) ∧ (∀ (α : List av_X) (lv : List (Nat × Value)) (st : List Value) (S1 : fw_S), as_in ad sm wd_fl2 xs S kh_uStorm.2.2.2.2.2.1 α kh_uStorm_a48.2.2.1 lv st S1 → (S1 = S ∧ nv α 3 = frS (rwC S) ∧ nv α 4 = b2i (¬ frS (rwC S) = -1)) → 7 < k → hd_WR R_storm wd_fl2 kh_uStorm kh_uStorm_y l D tc ad kd N sm xs S p e s m args below meth c sz 48 lv st S1 1) ∧ (∀ (α : List av_X) (lv : List (Nat × Value)) (st : List Value) (S1 : fw_S), as_in ad sm wd_fl2 xs S kh_uStorm.2.2.2.2.2.1 α kh_uStorm_a61.2.2.1 lv st S1 → (S1 = S ∧ nv α 3 = frS (rwC S) ∧ nv α 4 = frS (rwC S) ∧ (0 ≤ nv α 4 ∧ nv α 4 ≤ 3)) → 6 < k → hd_WR R_storm wd_fl2 kh_uStorm kh_uStorm_y l D tc ad kd N sm xs S p e s m args below meth c sz 61 lv st S1 2) ∧ (∀ (α : List av_X) (lv : List (Nat × Value)) (st : List Value) (S1 : fw_S), as_in ad sm wd_fl2 xs S kh_uStorm.2.2.2.2.2.1 α kh_uStorm_a64.2.2.1 lv st S1 → (skC S1 = skS (skC S) (frS (rwC S)) (nv xs 1) ∧ nv α 3 = frS (rwC S) ∧ 0 ≤ nv α 3) → 5 < k → hd_WR R_storm wd_fl2 kh_uStorm kh_uStorm_y l D tc ad kd N sm xs S p e s m args below meth c sz 64 lv st S1 2) ∧ True
set_option maxHeartbeats 16000000 in
set_option maxRecDepth 8000 in
theorem kh_uStorm_h34 {l : Launch} {D : va_G} {tc : Nat → ClassId} {ad : Nat → Nat} {kd : Nat → Nat × Nat} {N : Nat} {sm : Nat → Nat} {xs : List av_X} {S : fw_S} {p : Program} {e : Env} {s : State} {m : MethodId} {args : Array Value} {below : List Frame} {meth : Method} {c : Code} {sz : Nat} {lvE : List (Nat × Value)} (G : hd_C wd_ff2 wd_fl2 kh_uStorm [kh_1216, kh_1217, kh_needRange, kh_freeStorm, kh_needState, kh_tellStorm] kh_uStorm_y l D tc ad kd N sm xs p s m args meth c sz) (H0 : as_in ad sm wd_fl2 xs S kh_uStorm.2.2.2.2.2.1 xs (hd_0 kh_uStorm) lvE [] S) {k : Nat} (ih : kh_uStorm_I l D tc ad kd N sm xs S p e s m args below meth c sz k) : (∀ (α : List av_X) (lv : List (Nat × Value)) (st : List Value) (S1 : fw_S), as_in ad sm wd_fl2 xs S kh_uStorm.2.2.2.2.2.1 α kh_uStorm_a34.2.2.1 lv st S1 → (S1 = S) → 9 < k + 1 → hd_WR R_storm wd_fl2 kh_uStorm kh_uStorm_y l D tc ad kd N sm xs S p e s m args below meth c sz 34 lv st S1 1) := by
  have hx : xs.length = 3 := by rw [H0.2.1.1]; rfl
  intro α lv st S1 H hp hk
  obtain ⟨α1, hle, Hr⟩ := as_recM (pl := []) [] (by decide +kernel) H
  have hf := H.2.2.2.2.2.2.2.2.2.2.1
  have hl1 : α1.length = 4 := by rw [Hr.2.1.1]; rfl
  have hl0 : α.length = 4 := by rw [H.2.1.1]; rfl
  have hxa : al_le xs α1 := H.1.trans hle
  obtain ⟨g1, -, g3, g4, -⟩ := as_fx Hr
  have g0 : (0 ≤ nv α1 0 ∧ nv α1 0 ≤ 0) ∧ (0 ≤ nv α1 1 ∧ nv α1 1 ≤ 2) ∧ (1 ≤ nv α1 2 ∧ nv α1 2 ≤ 9) ∧ (794 ≤ nv α1 3 ∧ nv α1 3 ≤ 794) ∧ True := by
    refine ⟨by have h := (en_nv (i := 0) Hr.2.1 rfl).2; exact h, by have h := (en_nv (i := 1) Hr.2.1 rfl).2; exact h, by have h := (en_nv (i := 2) Hr.2.1 rfl).2; exact h, by have h := (en_nv (i := 3) Hr.2.1 rfl).2; exact h, trivial⟩
  have r0 : nv α1 0 = nv α 0 := nv_le hle (by omega)
  have r1 : nv α1 1 = nv α 1 := nv_le hle (by omega)
  have r2 : nv α1 2 = nv α 2 := nv_le hle (by omega)
  have r3 : nv α1 3 = nv α 3 := nv_le hle (by omega)
  refine hd_callRR (Rr := R_freeStorm) (Rs := [kh_freeStorm]) (idx := 567) G (List.forall_mem_cons.mpr ⟨kh_freeStorm_okR, List.forall_mem_nil _⟩) (na := 4) (Bs := [kh_uStorm_b34_0]) (by decide +kernel) (by decide +kernel) hl1 Hr ?_
  intro q hq β lv' st' S' H1 hRx
  simp only [List.mem_cons, List.not_mem_nil, or_false] at hq
  rcases hq with rfl
  · obtain ⟨f1, f2, f3, f4, f5⟩ := as_fx H1
    simp only [kh_uStorm_b34_0, Nat.reduceEqDiff, if_false, fx_env, fx_c, fx_ne, fx_hf, wl_S, Nat.zero_add, Nat.reduceAdd, Nat.reduceDiv, Nat.reduceMod, List.getElem?_cons_zero, List.getElem?_cons_succ, if_true, and_true, true_and] at f1 f2 f3 f4 f5
    have fe0 : nv β 0 = 0 := by omega
    have fe3 : nv β 3 = 794 := by omega
    try simp only [fe0, fe3, Int.reduceToNat] at f2 f3 f4 f5
    have s0 : nv β 0 = nv α1 0 := nv_le H1.1 (by omega)
    have s1 : nv β 1 = nv α1 1 := nv_le H1.1 (by omega)
    have s2 : nv β 2 = nv α1 2 := nv_le H1.1 (by omega)
    have s3 : nv β 3 = nv α1 3 := nv_le H1.1 (by omega)
    obtain ⟨α', Ha, hm⟩ := hd_gpM (q := kh_uStorm_a37) (n := 1) (by decide +kernel) hx H1 (by decide +kernel) hxa hf
    have hfr := H1.2.2.2.2.2.2.2.2.2.2.1
    have m0 : nv α' 0 = nv β 0 := hm 0 0 rfl
    have m1 : nv α' 1 = nv β 1 := hm 1 1 rfl
    have m2 : nv α' 2 = nv β 2 := hm 2 2 rfl
    have m3 : nv α' 3 = nv β 4 := hm 3 4 rfl
    obtain ⟨Cc, hCc, ys, rr, hnm, hR, rest, hre⟩ := hRx
    rcases List.mem_singleton.mp hCc with rfl
    obtain ⟨v, v1, v2⟩ := hR
    have hv := hd_rv H1 (i := 4) rfl rfl rfl hre (Sum.inl.inj v1)
    rw [hv, hp] at v2
    refine ih.2.1 _ _ _ _ Ha ?_ ?_
    · rw [m3]
      exact ⟨f5.trans hp, v2⟩
    · omega
set_option maxHeartbeats 16000000 in
set_option maxRecDepth 8000 in
theorem kh_uStorm_h37 {l : Launch} {D : va_G} {tc : Nat → ClassId} {ad : Nat → Nat} {kd : Nat → Nat × Nat} {N : Nat} {sm : Nat → Nat} {xs : List av_X} {S : fw_S} {p : Program} {e : Env} {s : State} {m : MethodId} {args : Array Value} {below : List Frame} {meth : Method} {c : Code} {sz : Nat} {lvE : List (Nat × Value)} (G : hd_C wd_ff2 wd_fl2 kh_uStorm [kh_1216, kh_1217, kh_needRange, kh_freeStorm, kh_needState, kh_tellStorm] kh_uStorm_y l D tc ad kd N sm xs p s m args meth c sz) (H0 : as_in ad sm wd_fl2 xs S kh_uStorm.2.2.2.2.2.1 xs (hd_0 kh_uStorm) lvE [] S) {k : Nat} (ih : kh_uStorm_I l D tc ad kd N sm xs S p e s m args below meth c sz k) : (∀ (α : List av_X) (lv : List (Nat × Value)) (st : List Value) (S1 : fw_S), as_in ad sm wd_fl2 xs S kh_uStorm.2.2.2.2.2.1 α kh_uStorm_a37.2.2.1 lv st S1 → (S1 = S ∧ nv α 3 = frS (rwC S)) → 8 < k + 1 → hd_WR R_storm wd_fl2 kh_uStorm kh_uStorm_y l D tc ad kd N sm xs S p e s m args below meth c sz 37 lv st S1 1) := by
  have hx : xs.length = 3 := by rw [H0.2.1.1]; rfl
  intro α lv st S1 H hp hk
  obtain ⟨α1, hle, Hr⟩ := as_recM (pl := []) [] (by decide +kernel) H
  have hf := H.2.2.2.2.2.2.2.2.2.2.1
  have hl1 : α1.length = 4 := by rw [Hr.2.1.1]; rfl
  have hl0 : α.length = 4 := by rw [H.2.1.1]; rfl
  have hxa : al_le xs α1 := H.1.trans hle
  obtain ⟨g1, -, g3, g4, -⟩ := as_fx Hr
  have g0 : (0 ≤ nv α1 0 ∧ nv α1 0 ≤ 0) ∧ (0 ≤ nv α1 1 ∧ nv α1 1 ≤ 2) ∧ (1 ≤ nv α1 2 ∧ nv α1 2 ≤ 9) ∧ ((-1) ≤ nv α1 3 ∧ nv α1 3 ≤ 3) ∧ True := by
    refine ⟨by have h := (en_nv (i := 0) Hr.2.1 rfl).2; exact h, by have h := (en_nv (i := 1) Hr.2.1 rfl).2; exact h, by have h := (en_nv (i := 2) Hr.2.1 rfl).2; exact h, by have h := (en_nv (i := 3) Hr.2.1 rfl).2; exact h, trivial⟩
  have r0 : nv α1 0 = nv α 0 := nv_le hle (by omega)
  have r1 : nv α1 1 = nv α 1 := nv_le hle (by omega)
  have r2 : nv α1 2 = nv α 2 := nv_le hle (by omega)
  have r3 : nv α1 3 = nv α 3 := nv_le hle (by omega)
  refine hd_segMR G (na := 4) (fuel := 600) (first := true) (Bs := [kh_uStorm_b37_0, kh_uStorm_b37_1]) (by decide +kernel) hl1 Hr ?_
  intro q hq β lv' st' S' H1
  simp only [List.mem_cons, List.not_mem_nil, or_false] at hq
  rcases hq with rfl | rfl
  · obtain ⟨f1, f2, f3, f4, f5⟩ := as_fx H1
    simp only [kh_uStorm_b37_0, Nat.reduceEqDiff, if_false, fx_env, fx_c, fx_ne, fx_hf, wl_S, Nat.zero_add, Nat.reduceAdd, Nat.reduceDiv, Nat.reduceMod, List.getElem?_cons_zero, List.getElem?_cons_succ, if_true, and_true, true_and] at f1 f2 f3 f4 f5
    have fe0 : nv β 0 = 0 := by omega
    have fe3 : nv β 3 = (-1) := by omega
    have fe4 : nv β 4 = (-1) := by omega
    have fe5 : nv β 5 = 0 := by omega
    try simp only [fe0, fe3, fe4, fe5, Int.reduceToNat] at f2 f3 f4 f5
    have s0 : nv β 0 = nv α1 0 := nv_le H1.1 (by omega)
    have s1 : nv β 1 = nv α1 1 := nv_le H1.1 (by omega)
    have s2 : nv β 2 = nv α1 2 := nv_le H1.1 (by omega)
    have s3 : nv β 3 = nv α1 3 := nv_le H1.1 (by omega)
    have c0 := f2
    obtain ⟨α', Ha, hm⟩ := hd_gpM (q := kh_uStorm_a48) (n := 1) (by decide +kernel) hx H1 (by decide +kernel) hxa hf
    have hfr := H1.2.2.2.2.2.2.2.2.2.2.1
    have m0 : nv α' 0 = nv β 0 := hm 0 0 rfl
    have m1 : nv α' 1 = nv β 1 := hm 1 1 rfl
    have m2 : nv α' 2 = nv β 2 := hm 2 2 rfl
    have m3 : nv α' 3 = nv β 3 := hm 3 3 rfl
    have m4 : nv α' 4 = nv β 5 := hm 4 5 rfl
    obtain ⟨p1, p2⟩ := hp
    refine ih.2.2.1 _ _ _ _ Ha ?_ ?_
    · rw [m3, m4]
      refine ⟨f5.trans p1, by omega, ?_⟩
      unfold b2i
      rw [← p2]
      split <;> omega
    · omega
  · obtain ⟨f1, f2, f3, f4, f5⟩ := as_fx H1
    simp only [kh_uStorm_b37_1, Nat.reduceEqDiff, if_false, fx_env, fx_c, fx_ne, fx_hf, wl_S, Nat.zero_add, Nat.reduceAdd, Nat.reduceDiv, Nat.reduceMod, List.getElem?_cons_zero, List.getElem?_cons_succ, if_true, and_true, true_and] at f1 f2 f3 f4 f5
    have fe0 : nv β 0 = 0 := by omega
    have fe4 : nv β 4 = (-1) := by omega
    have fe5 : nv β 5 = 1 := by omega
    try simp only [fe0, fe4, fe5, Int.reduceToNat] at f2 f3 f4 f5
    have s0 : nv β 0 = nv α1 0 := nv_le H1.1 (by omega)
    have s1 : nv β 1 = nv α1 1 := nv_le H1.1 (by omega)
    have s2 : nv β 2 = nv α1 2 := nv_le H1.1 (by omega)
    have s3 : nv β 3 = nv α1 3 := nv_le H1.1 (by omega)
    have c0 := f2
    obtain ⟨α', Ha, hm⟩ := hd_gpM (q := kh_uStorm_a48) (n := 1) (by decide +kernel) hx H1 (by decide +kernel) hxa hf
    have hfr := H1.2.2.2.2.2.2.2.2.2.2.1
    have m0 : nv α' 0 = nv β 0 := hm 0 0 rfl
    have m1 : nv α' 1 = nv β 1 := hm 1 1 rfl
    have m2 : nv α' 2 = nv β 2 := hm 2 2 rfl
    have m3 : nv α' 3 = nv β 3 := hm 3 3 rfl
    have m4 : nv α' 4 = nv β 5 := hm 4 5 rfl
    obtain ⟨p1, p2⟩ := hp
    refine ih.2.2.1 _ _ _ _ Ha ?_ ?_
    · rw [m3, m4]
      refine ⟨f5.trans p1, by omega, ?_⟩
      unfold b2i
      rw [← p2]
      split <;> omega
    · omega
set_option maxHeartbeats 16000000 in
set_option maxRecDepth 8000 in
theorem kh_uStorm_h48 {l : Launch} {D : va_G} {tc : Nat → ClassId} {ad : Nat → Nat} {kd : Nat → Nat × Nat} {N : Nat} {sm : Nat → Nat} {xs : List av_X} {S : fw_S} {p : Program} {e : Env} {s : State} {m : MethodId} {args : Array Value} {below : List Frame} {meth : Method} {c : Code} {sz : Nat} {lvE : List (Nat × Value)} (G : hd_C wd_ff2 wd_fl2 kh_uStorm [kh_1216, kh_1217, kh_needRange, kh_freeStorm, kh_needState, kh_tellStorm] kh_uStorm_y l D tc ad kd N sm xs p s m args meth c sz) (H0 : as_in ad sm wd_fl2 xs S kh_uStorm.2.2.2.2.2.1 xs (hd_0 kh_uStorm) lvE [] S) {k : Nat} (ih : kh_uStorm_I l D tc ad kd N sm xs S p e s m args below meth c sz k) : (∀ (α : List av_X) (lv : List (Nat × Value)) (st : List Value) (S1 : fw_S), as_in ad sm wd_fl2 xs S kh_uStorm.2.2.2.2.2.1 α kh_uStorm_a48.2.2.1 lv st S1 → (S1 = S ∧ nv α 3 = frS (rwC S) ∧ nv α 4 = b2i (¬ frS (rwC S) = -1)) → 7 < k + 1 → hd_WR R_storm wd_fl2 kh_uStorm kh_uStorm_y l D tc ad kd N sm xs S p e s m args below meth c sz 48 lv st S1 1) := by
  have hx : xs.length = 3 := by rw [H0.2.1.1]; rfl
  intro α lv st S1 H hp hk
  obtain ⟨α1, hle, Hr⟩ := as_recM (pl := []) [] (by decide +kernel) H
  have hf := H.2.2.2.2.2.2.2.2.2.2.1
  have hl1 : α1.length = 5 := by rw [Hr.2.1.1]; rfl
  have hl0 : α.length = 5 := by rw [H.2.1.1]; rfl
  have hxa : al_le xs α1 := H.1.trans hle
  obtain ⟨g1, -, g3, g4, -⟩ := as_fx Hr
  have g0 : (0 ≤ nv α1 0 ∧ nv α1 0 ≤ 0) ∧ (0 ≤ nv α1 1 ∧ nv α1 1 ≤ 2) ∧ (1 ≤ nv α1 2 ∧ nv α1 2 ≤ 9) ∧ ((-1) ≤ nv α1 3 ∧ nv α1 3 ≤ 3) ∧ (0 ≤ nv α1 4 ∧ nv α1 4 ≤ 1) ∧ True := by
    refine ⟨by have h := (en_nv (i := 0) Hr.2.1 rfl).2; exact h, by have h := (en_nv (i := 1) Hr.2.1 rfl).2; exact h, by have h := (en_nv (i := 2) Hr.2.1 rfl).2; exact h, by have h := (en_nv (i := 3) Hr.2.1 rfl).2; exact h, by have h := (en_nv (i := 4) Hr.2.1 rfl).2; exact h, trivial⟩
  have r0 : nv α1 0 = nv α 0 := nv_le hle (by omega)
  have r1 : nv α1 1 = nv α 1 := nv_le hle (by omega)
  have r2 : nv α1 2 = nv α 2 := nv_le hle (by omega)
  have r3 : nv α1 3 = nv α 3 := nv_le hle (by omega)
  have r4 : nv α1 4 = nv α 4 := nv_le hle (by omega)
  refine hd_segXG G (csX := kh_uStorm_X48) (na := 5) (fuel := 600) (Bs := [kh_uStorm_b48_0]) (by decide +kernel) hl1 (fun E S2 hpx => by
    obtain ⟨q, q1, q2, q3, q4, q5, q6, q7, q8⟩ := hpx
    rcases List.mem_singleton.mp q1 with rfl
    have e2 : S2 = S1 := fr_same q8
    have eE : E = ex_nm 1 := Sum.inr.inj q2
    obtain ⟨p1, p2, p3⟩ := hp
    have b := (en_nv (i := 4) q3 rfl).2
    change 0 ≤ nv α1 4 ∧ nv α1 4 ≤ 0 at b
    rw [e2, p1, eE]
    refine ⟨ct_thrown (fls := [520, 521, 522]) (List.mem_cons_of_mem _ List.mem_cons_self) H0.2.1 (fun g hg => H0.2.2.2.2.2.2.2.2.1 g hg) H0.2.2.2.2.2.2.2.2.2.1, Or.inr ⟨?_, rfl, rfl⟩⟩
    by_cases e : frS (rwC S) = -1
    · exact e
    · exfalso
      unfold b2i at p3
      rw [if_pos e] at p3
      omega) Hr ?_
  intro q hq β lv' st' S' H1
  simp only [List.mem_cons, List.not_mem_nil, or_false] at hq
  rcases hq with rfl
  · obtain ⟨f1, f2, f3, f4, f5⟩ := as_fx H1
    simp only [kh_uStorm_b48_0, Nat.reduceEqDiff, if_false, fx_env, fx_c, fx_ne, fx_hf, wl_S, Nat.zero_add, Nat.reduceAdd, Nat.reduceDiv, Nat.reduceMod, List.getElem?_cons_zero, List.getElem?_cons_succ, if_true, and_true, true_and] at f1 f2 f3 f4 f5
    have fe0 : nv β 0 = 0 := by omega
    have fe4 : nv β 4 = 1 := by omega
    have fe5 : nv β 5 = 1 := by omega
    have fe6 : nv β 6 = 794 := by omega
    try simp only [fe0, fe4, fe5, fe6, Int.reduceToNat] at f2 f3 f4 f5
    have s0 : nv β 0 = nv α1 0 := nv_le H1.1 (by omega)
    have s1 : nv β 1 = nv α1 1 := nv_le H1.1 (by omega)
    have s2 : nv β 2 = nv α1 2 := nv_le H1.1 (by omega)
    have s3 : nv β 3 = nv α1 3 := nv_le H1.1 (by omega)
    have s4 : nv β 4 = nv α1 4 := nv_le H1.1 (by omega)
    obtain ⟨α', Ha, hm⟩ := hd_gpM (q := kh_uStorm_a61) (n := 2) (by decide +kernel) hx H1 (by decide +kernel) hxa hf
    have hfr := H1.2.2.2.2.2.2.2.2.2.2.1
    have m0 : nv α' 0 = nv β 0 := hm 0 0 rfl
    have m1 : nv α' 1 = nv β 1 := hm 1 1 rfl
    have m2 : nv α' 2 = nv β 2 := hm 2 2 rfl
    have m3 : nv α' 3 = nv β 3 := hm 3 3 rfl
    have m4 : nv α' 4 = nv β 3 := hm 4 3 rfl
    have m5 : nv α' 5 = nv β 6 := hm 5 6 rfl
    obtain ⟨p1, p2, p3⟩ := hp
    unfold b2i at p3
    have g : ¬ frS (rwC S) = -1 := fun g => by rw [if_neg (fun w => w g)] at p3; omega
    refine ih.2.2.2.1 _ _ _ _ Ha ?_ ?_
    · rw [m3, m4, s3, r3]
      exact ⟨f5.trans p1, p2, p2, by omega, by omega⟩
    · omega
set_option maxHeartbeats 16000000 in
set_option maxRecDepth 8000 in
theorem kh_uStorm_h61 {l : Launch} {D : va_G} {tc : Nat → ClassId} {ad : Nat → Nat} {kd : Nat → Nat × Nat} {N : Nat} {sm : Nat → Nat} {xs : List av_X} {S : fw_S} {p : Program} {e : Env} {s : State} {m : MethodId} {args : Array Value} {below : List Frame} {meth : Method} {c : Code} {sz : Nat} {lvE : List (Nat × Value)} (G : hd_C wd_ff2 wd_fl2 kh_uStorm [kh_1216, kh_1217, kh_needRange, kh_freeStorm, kh_needState, kh_tellStorm] kh_uStorm_y l D tc ad kd N sm xs p s m args meth c sz) (H0 : as_in ad sm wd_fl2 xs S kh_uStorm.2.2.2.2.2.1 xs (hd_0 kh_uStorm) lvE [] S) {k : Nat} (ih : kh_uStorm_I l D tc ad kd N sm xs S p e s m args below meth c sz k) : (∀ (α : List av_X) (lv : List (Nat × Value)) (st : List Value) (S1 : fw_S), as_in ad sm wd_fl2 xs S kh_uStorm.2.2.2.2.2.1 α kh_uStorm_a61.2.2.1 lv st S1 → (S1 = S ∧ nv α 3 = frS (rwC S) ∧ nv α 4 = frS (rwC S) ∧ (0 ≤ nv α 4 ∧ nv α 4 ≤ 3)) → 6 < k + 1 → hd_WR R_storm wd_fl2 kh_uStorm kh_uStorm_y l D tc ad kd N sm xs S p e s m args below meth c sz 61 lv st S1 2) := by
  have hx : xs.length = 3 := by rw [H0.2.1.1]; rfl
  intro α lv st S1 H hp hk
  have bp := (en_nv (i := 4) H.2.1 rfl).2
  change (-1) ≤ nv α 4 ∧ nv α 4 ≤ 3 at bp
  replace H := as_clamp (i := 4) (lo := 0) (hi := 3) H rfl rfl (by exact hp.2.2.2.1) (by exact hp.2.2.2.2) (by decide)
  obtain ⟨α1, hle, Hr⟩ := as_recM (pl := []) [((796, 799), (0, 0, 0)), ((796, 799), (1, 1, 0)), ((796, 799), (2, 2, 0)), ((796, 799), (3, 3, 0))] (by decide +kernel) H
  have hf := H.2.2.2.2.2.2.2.2.2.2.1
  have hl1 : α1.length = 6 := by rw [Hr.2.1.1]; rfl
  have hl0 : α.length = 6 := by rw [H.2.1.1]; rfl
  have hxa : al_le xs α1 := H.1.trans hle
  obtain ⟨g1, -, g3, g4, -⟩ := as_fx Hr
  have g0 : (0 ≤ nv α1 0 ∧ nv α1 0 ≤ 0) ∧ (0 ≤ nv α1 1 ∧ nv α1 1 ≤ 2) ∧ (1 ≤ nv α1 2 ∧ nv α1 2 ≤ 9) ∧ ((-1) ≤ nv α1 3 ∧ nv α1 3 ≤ 3) ∧ (0 ≤ nv α1 4 ∧ nv α1 4 ≤ 3) ∧ (794 ≤ nv α1 5 ∧ nv α1 5 ≤ 794) ∧ True := by
    refine ⟨by have h := (en_nv (i := 0) Hr.2.1 rfl).2; exact h, by have h := (en_nv (i := 1) Hr.2.1 rfl).2; exact h, by have h := (en_nv (i := 2) Hr.2.1 rfl).2; exact h, by have h := (en_nv (i := 3) Hr.2.1 rfl).2; exact h, by have h := (en_nv (i := 4) Hr.2.1 rfl).2; exact h, by have h := (en_nv (i := 5) Hr.2.1 rfl).2; exact h, trivial⟩
  have r0 : nv α1 0 = nv α 0 := nv_le hle (by omega)
  have r1 : nv α1 1 = nv α 1 := nv_le hle (by omega)
  have r2 : nv α1 2 = nv α 2 := nv_le hle (by omega)
  have r3 : nv α1 3 = nv α 3 := nv_le hle (by omega)
  have r4 : nv α1 4 = nv α 4 := nv_le hle (by omega)
  have r5 : nv α1 5 = nv α 5 := nv_le hle (by omega)
  refine hd_callRR (Rr := R_tellStorm) (Rs := [kh_tellStorm]) (idx := 570) G (List.forall_mem_cons.mpr ⟨kh_tellStorm_okR, List.forall_mem_nil _⟩) (na := 6) (Bs := [kh_uStorm_b61_0]) (by decide +kernel) (by decide +kernel) hl1 Hr ?_
  intro q hq β lv' st' S' H1 hRx
  simp only [List.mem_cons, List.not_mem_nil, or_false] at hq
  rcases hq with rfl
  · obtain ⟨f1, f2, f3, f4, f5⟩ := as_fx H1
    simp only [kh_uStorm_b61_0, Nat.reduceEqDiff, if_false, fx_env, fx_c, fx_ne, fx_hf, wl_S, Nat.zero_add, Nat.reduceAdd, Nat.reduceDiv, Nat.reduceMod, List.getElem?_cons_zero, List.getElem?_cons_succ, if_true, and_true, true_and] at f1 f2 f3 f4 f5
    have fe0 : nv β 0 = 0 := by omega
    have fe5 : nv β 5 = 794 := by omega
    try simp only [fe0, fe5, Int.reduceToNat] at f2 f3 f4 f5
    have s0 : nv β 0 = nv α1 0 := nv_le H1.1 (by omega)
    have s1 : nv β 1 = nv α1 1 := nv_le H1.1 (by omega)
    have s2 : nv β 2 = nv α1 2 := nv_le H1.1 (by omega)
    have s3 : nv β 3 = nv α1 3 := nv_le H1.1 (by omega)
    have s4 : nv β 4 = nv α1 4 := nv_le H1.1 (by omega)
    have s5 : nv β 5 = nv α1 5 := nv_le H1.1 (by omega)
    obtain ⟨α', Ha, hm⟩ := hd_gpM (q := kh_uStorm_a64) (n := 2) (by decide +kernel) hx H1 (by decide +kernel) hxa hf
    have hfr := H1.2.2.2.2.2.2.2.2.2.2.1
    have m0 : nv α' 0 = nv β 0 := hm 0 0 rfl
    have m1 : nv α' 1 = nv β 1 := hm 1 1 rfl
    have m2 : nv α' 2 = nv β 2 := hm 2 2 rfl
    have m3 : nv α' 3 = nv β 3 := hm 3 3 rfl
    obtain ⟨Cc, hCc, ys, rr, hnm, hR, rest, hre⟩ := hRx
    rcases List.mem_singleton.mp hCc with rfl
    have y1 : nv ys 1 = nv α1 4 := nm_nv hnm (i := 1) (v := 4) rfl
    have y2 : nv ys 2 = nv α1 1 := nm_nv hnm (i := 2) (v := 1) rfl
    have hR2 : skC S' = skS (skC S1) (nv ys 1) (nv ys 2) := hR
    obtain ⟨p1, p2, p3, p4⟩ := hp
    have z1 : nv α 1 = nv xs 1 := nv_le H.1 (by omega)
    rw [y1, y2, r4, p3, p1, show nv α1 1 = nv xs 1 by omega] at hR2
    refine ih.2.2.2.2.1 _ _ _ _ Ha ?_ ?_
    · rw [m3, s3, r3]
      exact ⟨hR2, p2, by omega⟩
    · omega
set_option maxHeartbeats 16000000 in
set_option maxRecDepth 8000 in
theorem kh_uStorm_h64 {l : Launch} {D : va_G} {tc : Nat → ClassId} {ad : Nat → Nat} {kd : Nat → Nat × Nat} {N : Nat} {sm : Nat → Nat} {xs : List av_X} {S : fw_S} {p : Program} {e : Env} {s : State} {m : MethodId} {args : Array Value} {below : List Frame} {meth : Method} {c : Code} {sz : Nat} {lvE : List (Nat × Value)} (G : hd_C wd_ff2 wd_fl2 kh_uStorm [kh_1216, kh_1217, kh_needRange, kh_freeStorm, kh_needState, kh_tellStorm] kh_uStorm_y l D tc ad kd N sm xs p s m args meth c sz) (H0 : as_in ad sm wd_fl2 xs S kh_uStorm.2.2.2.2.2.1 xs (hd_0 kh_uStorm) lvE [] S) {k : Nat} (ih : kh_uStorm_I l D tc ad kd N sm xs S p e s m args below meth c sz k) : (∀ (α : List av_X) (lv : List (Nat × Value)) (st : List Value) (S1 : fw_S), as_in ad sm wd_fl2 xs S kh_uStorm.2.2.2.2.2.1 α kh_uStorm_a64.2.2.1 lv st S1 → (skC S1 = skS (skC S) (frS (rwC S)) (nv xs 1) ∧ nv α 3 = frS (rwC S) ∧ 0 ≤ nv α 3) → 5 < k + 1 → hd_WR R_storm wd_fl2 kh_uStorm kh_uStorm_y l D tc ad kd N sm xs S p e s m args below meth c sz 64 lv st S1 2) := by
  have hx : xs.length = 3 := by rw [H0.2.1.1]; rfl
  intro α lv st S1 H hp hk
  obtain ⟨α1, hle, Hr⟩ := as_recM (pl := []) [] (by decide +kernel) H
  have hf := H.2.2.2.2.2.2.2.2.2.2.1
  have hl1 : α1.length = 4 := by rw [Hr.2.1.1]; rfl
  have hl0 : α.length = 4 := by rw [H.2.1.1]; rfl
  have hxa : al_le xs α1 := H.1.trans hle
  obtain ⟨g1, -, g3, g4, -⟩ := as_fx Hr
  have g0 : (0 ≤ nv α1 0 ∧ nv α1 0 ≤ 0) ∧ (0 ≤ nv α1 1 ∧ nv α1 1 ≤ 2) ∧ (1 ≤ nv α1 2 ∧ nv α1 2 ≤ 9) ∧ ((-1) ≤ nv α1 3 ∧ nv α1 3 ≤ 3) ∧ True := by
    refine ⟨by have h := (en_nv (i := 0) Hr.2.1 rfl).2; exact h, by have h := (en_nv (i := 1) Hr.2.1 rfl).2; exact h, by have h := (en_nv (i := 2) Hr.2.1 rfl).2; exact h, by have h := (en_nv (i := 3) Hr.2.1 rfl).2; exact h, trivial⟩
  have r0 : nv α1 0 = nv α 0 := nv_le hle (by omega)
  have r1 : nv α1 1 = nv α 1 := nv_le hle (by omega)
  have r2 : nv α1 2 = nv α 2 := nv_le hle (by omega)
  have r3 : nv α1 3 = nv α 3 := nv_le hle (by omega)
  refine hd_segMR G (na := 4) (fuel := 600) (first := true) (Bs := [kh_uStorm_b64_0]) (by decide +kernel) hl1 Hr ?_
  intro q hq β lv' st' S' H1
  simp only [List.mem_cons, List.not_mem_nil, or_false] at hq
  rcases hq with rfl
  · obtain ⟨f1, f2, f3, f4, f5⟩ := as_fx H1
    simp only [kh_uStorm_b64_0, Nat.reduceEqDiff, if_false, fx_env, fx_c, fx_ne, fx_hf, wl_S, Nat.zero_add, Nat.reduceAdd, Nat.reduceDiv, Nat.reduceMod, List.getElem?_cons_zero, List.getElem?_cons_succ, if_true, and_true, true_and] at f1 f2 f3 f4 f5
    have fe0 : nv β 0 = 0 := by omega
    try simp only [fe0, Int.reduceToNat] at f2 f3 f4 f5
    have s0 : nv β 0 = nv α1 0 := nv_le H1.1 (by omega)
    have s1 : nv β 1 = nv α1 1 := nv_le H1.1 (by omega)
    have s2 : nv β 2 = nv α1 2 := nv_le H1.1 (by omega)
    have s3 : nv β 3 = nv α1 3 := nv_le H1.1 (by omega)
    obtain ⟨p1, p2, p3⟩ := hp
    exact hd_retIR G (v := 3) (by decide +kernel) (as_backM H1 (by decide +kernel) hxa hf) _ List.mem_cons_self rfl (by decide +kernel) (by decide) (fun w hw => by cases hw) (fun y hy => Or.inl ⟨by omega, ⟨y, rfl, by omega⟩, by rw [show S' = S1 from f5]; exact p1⟩)
set_option maxHeartbeats 16000000 in
set_option maxRecDepth 8000 in
theorem kh_uStorm_okR : ct_okR wd_fl2 kh_uStorm R_storm := ct_handR (R := R_storm) (ff := wd_ff2) (y := kh_uStorm_y) (Cs := [kh_1216, kh_1217, kh_needRange, kh_freeStorm, kh_needState, kh_tellStorm]) wd_fl2_ok rfl (List.forall_mem_cons.mpr ⟨kh_1216_ok, (List.forall_mem_cons.mpr ⟨kh_1217_ok, (List.forall_mem_cons.mpr ⟨kh_needRange_ok, (List.forall_mem_cons.mpr ⟨kh_freeStorm_ok, (List.forall_mem_cons.mpr ⟨kh_needState_ok, (List.forall_mem_cons.mpr ⟨kh_tellStorm_ok, (List.forall_mem_nil _)⟩)⟩)⟩)⟩)⟩)⟩) (by decide +kernel) (fun l D tc ad kd N sm xs S p e s m args below meth c sz lv G H0 => by
  have hx : xs.length = 3 := by rw [H0.2.1.1]; rfl
  have hP : ∀ (k : Nat), kh_uStorm_I l D tc ad kd N sm xs S p e s m args below meth c sz k := by
    intro k
    induction k with
    | zero => exact ⟨fun _ _ _ _ _ _ h => absurd h (Nat.not_lt_zero _), fun _ _ _ _ _ _ h => absurd h (Nat.not_lt_zero _), fun _ _ _ _ _ _ h => absurd h (Nat.not_lt_zero _), fun _ _ _ _ _ _ h => absurd h (Nat.not_lt_zero _), fun _ _ _ _ _ _ h => absurd h (Nat.not_lt_zero _), trivial⟩
    | succ k ih => exact ⟨kh_uStorm_h34 G H0 ih, kh_uStorm_h37 G H0 ih, kh_uStorm_h48 G H0 ih, kh_uStorm_h61 G H0 ih, kh_uStorm_h64 G H0 ih, trivial⟩
  obtain ⟨α1, hle, Hr⟩ := as_recM (pl := []) [] (by decide +kernel) H0
  have hf := H0.2.2.2.2.2.2.2.2.2.2.1
  have hl1 : α1.length = 3 := by rw [Hr.2.1.1]; rfl
  have hl0 : xs.length = 3 := by rw [H0.2.1.1]; rfl
  have hxa : al_le xs α1 := H0.1.trans hle
  obtain ⟨g1, -, g3, g4, -⟩ := as_fx Hr
  have g0 : (0 ≤ nv α1 0 ∧ nv α1 0 ≤ 0) ∧ (0 ≤ nv α1 1 ∧ nv α1 1 ≤ 2) ∧ (1 ≤ nv α1 2 ∧ nv α1 2 ≤ 9) ∧ True := by
    refine ⟨by have h := (en_nv (i := 0) Hr.2.1 rfl).2; exact h, by have h := (en_nv (i := 1) Hr.2.1 rfl).2; exact h, by have h := (en_nv (i := 2) Hr.2.1 rfl).2; exact h, trivial⟩
  have r0 : nv α1 0 = nv xs 0 := nv_le hle (by omega)
  have r1 : nv α1 1 = nv xs 1 := nv_le hle (by omega)
  have r2 : nv α1 2 = nv xs 2 := nv_le hle (by omega)
  refine hd_segMR G (na := 3) (fuel := 600) (first := true) (Bs := [kh_uStorm_b0_0]) (by decide +kernel) hl1 Hr ?_
  intro q hq β lv' st' S' H1
  simp only [List.mem_cons, List.not_mem_nil, or_false] at hq
  rcases hq with rfl
  · obtain ⟨f1, f2, f3, f4, f5⟩ := as_fx H1
    simp only [kh_uStorm_b0_0, Nat.reduceEqDiff, if_false, fx_env, fx_c, fx_ne, fx_hf, wl_S, Nat.zero_add, Nat.reduceAdd, Nat.reduceDiv, Nat.reduceMod, List.getElem?_cons_zero, List.getElem?_cons_succ, if_true, and_true, true_and] at f1 f2 f3 f4 f5
    have fe0 : nv β 0 = 0 := by omega
    have fe3 : nv β 3 = 0 := by omega
    have fe4 : nv β 4 = 2 := by omega
    have fe5 : nv β 5 = 1 := by omega
    have fe6 : nv β 6 = 1 := by omega
    have fe7 : nv β 7 = 9 := by omega
    have fe8 : nv β 8 = 1 := by omega
    have fe9 : nv β 9 = 1 := by omega
    have fe10 : nv β 10 = 1 := by omega
    have fe11 : nv β 11 = 794 := by omega
    try simp only [fe0, fe3, fe4, fe5, fe6, fe7, fe8, fe9, fe10, fe11, Int.reduceToNat] at f2 f3 f4 f5
    have s0 : nv β 0 = nv α1 0 := nv_le H1.1 (by omega)
    have s1 : nv β 1 = nv α1 1 := nv_le H1.1 (by omega)
    have s2 : nv β 2 = nv α1 2 := nv_le H1.1 (by omega)
    obtain ⟨α', Ha, hm⟩ := hd_gpM (q := kh_uStorm_a34) (n := 1) (by decide +kernel) hx H1 (by decide +kernel) hxa hf
    have hfr := H1.2.2.2.2.2.2.2.2.2.2.1
    have m0 : nv α' 0 = nv β 0 := hm 0 0 rfl
    have m1 : nv α' 1 = nv β 1 := hm 1 1 rfl
    have m2 : nv α' 2 = nv β 2 := hm 2 2 rfl
    have m3 : nv α' 3 = nv β 11 := hm 3 11 rfl
    refine (hP _).1 _ _ _ _ Ha ?_ (Nat.lt_succ_self _)
    · exact f5)
theorem kh_uStorm_ok : ct_ok wd_fl2 kh_uStorm := ct_okR_ok kh_uStorm_okR
