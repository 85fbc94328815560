/-! ===== the model: weather, storms, days ===== -/
def mrw (S : fw_S) (k : Nat) : Int := (S.1 806 (500 + 4 * k)).toInt
def mcl (S : fw_S) (k : Nat) : Int := (S.1 806 (502 + 4 * k)).toInt
def skM (S : fw_S) : Sk := ((S.1 806 1).toInt, (S.1 806 4).toInt, (S.1 806 5).toInt, fun k => if k < 4 then mrw S k else 0, fun k => if k < 4 then mcl S k else 0)
theorem skM_ext {S : fw_S} {a : Sk} (h0 : (S.1 806 1).toInt = a.1) (h3 : (S.1 806 4).toInt = a.2.1) (h4 : (S.1 806 5).toInt = a.2.2.1) (hr : ∀ k : Nat, (if k < 4 then mrw S k else 0) = a.2.2.2.1 k) (hc : ∀ k : Nat, (if k < 4 then mcl S k else 0) = a.2.2.2.2 k) : skM S = a := by
  obtain ⟨a1, a2, a3, a4, a5⟩ := a
  unfold skM
  rw [h0, h3, h4, show (fun k => if k < 4 then mrw S k else 0) = a4 from funext hr, show (fun k => if k < 4 then mcl S k else 0) = a5 from funext hc]
theorem skM_eq {S S' : fw_S} (h1 : S'.1 806 1 = S.1 806 1) (h4 : S'.1 806 4 = S.1 806 4) (h5 : S'.1 806 5 = S.1 806 5) (hr : ∀ k : Nat, k < 4 → mrw S' k = mrw S k ∧ mcl S' k = mcl S k) : skM S' = skM S :=
  skM_ext (by rw [h1]; rfl) (by rw [h4]; rfl) (by rw [h5]; rfl) (fun k => by
    show _ = if k < 4 then mrw S k else 0
    by_cases hk : k < 4
    · rw [if_pos hk, if_pos hk, (hr k hk).1]
    · rw [if_neg hk, if_neg hk]) (fun k => by
    show _ = if k < 4 then mcl S k else 0
    by_cases hk : k < 4
    · rw [if_pos hk, if_pos hk, (hr k hk).2]
    · rw [if_neg hk, if_neg hk])
def mM (S S1 : fw_S) (k : Nat) : Prop := mrw S1 k = stR (mrw S k) (mcl S k) ∧ mcl S1 k = stC (mrw S k) (mcl S k)
def mK (S S1 : fw_S) (k : Nat) : Prop := mrw S1 k = mrw S k ∧ mcl S1 k = mcl S k
def mT (S S1 : fw_S) : Prop := (S1.1 806 1).toInt = (skN (skM S)).1 ∧ (S1.1 806 4).toInt = (skN (skM S)).2.1 ∧ (S1.1 806 5).toInt = (skN (skM S)).2.2.1
theorem mT_in {S S1 : fw_S} (h : mT S S1) (hm : ∀ k : Nat, k < 4 → mM S S1 k) : skM S1 = skN (skM S) :=
  skM_ext h.1 h.2.1 h.2.2 (fun k => by
    show _ = if k < 4 then stR (if k < 4 then mrw S k else 0) (if k < 4 then mcl S k else 0) else 0
    by_cases hk : k < 4
    · simp only [if_pos hk]; exact (hm k hk).1
    · simp only [if_neg hk]) (fun k => by
    show _ = if k < 4 then stC (if k < 4 then mrw S k else 0) (if k < 4 then mcl S k else 0) else 0
    by_cases hk : k < 4
    · simp only [if_pos hk]; exact (hm k hk).2
    · simp only [if_neg hk])
def R_stormCell : List av_X → fw_S → fw_O → fw_S → Prop := fun xs S oc _ => ∃ v : Int32, oc = .inl (some (.int v)) ∧ v.toInt = (S.1 806 (500 + 4 * (nv xs 1).toNat + (nv xs 2).toNat)).toInt
def R_mIsStorm : List av_X → fw_S → fw_O → fw_S → Prop := fun xs S oc _ => ∃ v : Int32, oc = .inl (some (.int v)) ∧ v.toInt = b2i (¬ mrw S (nv xs 1).toNat = -1)
def R_drawn : List av_X → fw_S → fw_O → fw_S → Prop := fun _ S oc _ => ∃ v : Int32, oc = .inl (some (.int v)) ∧ v.toInt = nxtS (S.1 806 5).toInt
def R_draw : List av_X → fw_S → fw_O → fw_S → Prop := fun _ S _ S' => (S'.1 806 1).toInt = nxtS (S.1 806 5).toInt % 31 - 10 ∧ (S'.1 806 5).toInt = nxtS (S.1 806 5).toInt
def R_stormsGo : List av_X → fw_S → fw_O → fw_S → Prop := fun _ S _ S' => ∀ k : Nat, k < 4 → mM S S' k
def R_wDay : List av_X → fw_S → fw_O → fw_S → Prop := fun _ S _ S' => skM S' = skN (skM S)
abbrev kh_stormCell_y : mt_T := (⟨"UtilityWorksModel", "stormCell", "(II)I"⟩, prog_14_method_316_code, 3, some .int, 12, 1, 2, 33073, 33072, 6007, 21014)
def kh_stormCell : ct_T := (384, [(2, 805, 805, 0), (0, 0, 3, 1), (0, 0, 3, 1)], [], [], [(1, (0, (-2147483648), 2147483647, 1), [(2, 805, 805, 0), (0, 0, 3, 1), (0, 0, 3, 1)], [], ([], []))], [], 0, 0, 0)
def kh_stormCell_b0_0 : sg_T := (14, 0, ([((2, 805, 805, 0), none), ((0, 0, 3, 1), none), ((0, 0, 3, 1), none), ((2, 806, 806, 1), none), ((0, 500, 500, 0), none), ((0, 4, 4, 0), none), ((0, 0, 12, 4), none), ((0, 500, 512, 4), none), ((0, 500, 515, 1), none), ((0, (-2147483648), 2147483647, 1), none)], [(0, 0), (1, 1), (2, 2)], [9], [(3, 8, 9)], [], [(800009, 3, 8), (500008, 7, 2), (500007, 4, 6), (700006, 5, 1)], [], [], some []))
set_option maxHeartbeats 16000000 in
set_option maxRecDepth 8000 in
theorem kh_stormCell_okR : ct_okR wd_fl2 kh_stormCell R_stormCell := ct_handR (R := R_stormCell) (ff := wd_ff2) (y := kh_stormCell_y) (Cs := []) wd_fl2_ok rfl (List.forall_mem_nil _) (by decide +kernel) (fun l D tc ad kd N sm xs S p e s m args below meth c sz lv G H0 => by
  have hx : xs.length = 3 := by rw [H0.2.1.1]; rfl
  obtain ⟨α1, hle, Hr⟩ := as_recM (pl := []) [] (by decide +kernel) H0
  have hf := H0.2.2.2.2.2.2.2.2.2.2.1
  have hl1 : α1.length = 3 := by rw [Hr.2.1.1]; rfl
  have hl0 : xs.length = 3 := by rw [H0.2.1.1]; rfl
  have hxa : al_le xs α1 := H0.1.trans hle
  obtain ⟨g1, -, g3, g4, -⟩ := as_fx Hr
  have g0 : (805 ≤ nv α1 0 ∧ nv α1 0 ≤ 805) ∧ (0 ≤ nv α1 1 ∧ nv α1 1 ≤ 3) ∧ (0 ≤ nv α1 2 ∧ nv α1 2 ≤ 3) ∧ True := by
    refine ⟨by have h := (en_nv (i := 0) Hr.2.1 rfl).2; exact h, by have h := (en_nv (i := 1) Hr.2.1 rfl).2; exact h, by have h := (en_nv (i := 2) Hr.2.1 rfl).2; exact h, trivial⟩
  have r0 : nv α1 0 = nv xs 0 := nv_le hle (by omega)
  have r1 : nv α1 1 = nv xs 1 := nv_le hle (by omega)
  have r2 : nv α1 2 = nv xs 2 := nv_le hle (by omega)
  refine hd_segMR G (na := 3) (fuel := 600) (first := true) (Bs := [kh_stormCell_b0_0]) (by decide +kernel) hl1 Hr ?_
  intro q hq β lv' st' S' H1
  simp only [List.mem_cons, List.not_mem_nil, or_false] at hq
  rcases hq with rfl
  · obtain ⟨f1, f2, f3, f4, f5⟩ := as_fx H1
    simp only [kh_stormCell_b0_0, Nat.reduceEqDiff, if_false, fx_env, fx_c, fx_ne, fx_hf, wl_S, Nat.zero_add, Nat.reduceAdd, Nat.reduceDiv, Nat.reduceMod, List.getElem?_cons_zero, List.getElem?_cons_succ, if_true, and_true, true_and] at f1 f2 f3 f4 f5
    have fe0 : nv β 0 = 805 := by omega
    have fe3 : nv β 3 = 806 := by omega
    have fe4 : nv β 4 = 500 := by omega
    have fe5 : nv β 5 = 4 := by omega
    try simp only [fe0, fe3, fe4, fe5, Int.reduceToNat] at f2 f3 f4 f5
    have s0 : nv β 0 = nv α1 0 := nv_le H1.1 (by omega)
    have s1 : nv β 1 = nv α1 1 := nv_le H1.1 (by omega)
    have s2 : nv β 2 = nv α1 2 := nv_le H1.1 (by omega)
    obtain ⟨c0, c1, c2, c3⟩ := f2
    have o0 := old_0 c0 rfl
    exact hd_retIR G (v := 9) (by decide +kernel) (as_backM H1 (by decide +kernel) hxa hf) _ List.mem_cons_self rfl (by decide +kernel) (by decide) (fun w hw => by cases hw) (fun y hy => ⟨y, rfl, by rw [hy, show 500 + 4 * (nv xs 1).toNat + (nv xs 2).toNat = (nv β 8).toNat by omega, o0]⟩))
theorem kh_stormCell_ok : ct_ok wd_fl2 kh_stormCell := ct_okR_ok kh_stormCell_okR
abbrev kh_stormRow_y : mt_T := (⟨"UtilityWorksModel", "stormCell", "(II)I"⟩, prog_14_method_316_code, 3, some .int, 12, 1, 2, 33073, 33072, 6007, 21014)
def kh_stormRow : ct_T := (384, [(2, 805, 805, 0), (0, 0, 3, 1), (0, 0, 0, 0)], [], [], [(1, (0, (-1), 2, 1), [(2, 805, 805, 0), (0, 0, 3, 1), (0, 0, 0, 0)], [], ([], []))], [], 0, 0, 0)
def kh_stormRow_b0_0 : sg_T := (14, 0, ([((2, 805, 805, 0), none), ((0, 0, 3, 1), none), ((0, 0, 0, 0), none), ((2, 806, 806, 1), none), ((0, 500, 500, 0), none), ((0, 4, 4, 0), none), ((0, 0, 12, 4), none), ((0, 500, 512, 4), none), ((0, 500, 512, 4), some (7, 0)), ((0, (-1), 2, 1), none)], [(0, 0), (1, 1), (2, 2)], [9], [(3, 8, 9)], [], [(800009, 3, 8), (500008, 7, 2), (500007, 4, 6), (700006, 5, 1)], [], [], some []))
set_option maxHeartbeats 16000000 in
set_option maxRecDepth 8000 in
theorem kh_stormRow_okR : ct_okR wd_fl2 kh_stormRow R_stormCell := ct_handR (R := R_stormCell) (ff := wd_ff2) (y := kh_stormRow_y) (Cs := []) wd_fl2_ok rfl (List.forall_mem_nil _) (by decide +kernel) (fun l D tc ad kd N sm xs S p e s m args below meth c sz lv G H0 => by
  have hx : xs.length = 3 := by rw [H0.2.1.1]; rfl
  obtain ⟨α1, hle, Hr⟩ := as_recM (pl := []) [] (by decide +kernel) H0
  have hf := H0.2.2.2.2.2.2.2.2.2.2.1
  have hl1 : α1.length = 3 := by rw [Hr.2.1.1]; rfl
  have hl0 : xs.length = 3 := by rw [H0.2.1.1]; rfl
  have hxa : al_le xs α1 := H0.1.trans hle
  obtain ⟨g1, -, g3, g4, -⟩ := as_fx Hr
  have g0 : (805 ≤ nv α1 0 ∧ nv α1 0 ≤ 805) ∧ (0 ≤ nv α1 1 ∧ nv α1 1 ≤ 3) ∧ (0 ≤ nv α1 2 ∧ nv α1 2 ≤ 0) ∧ True := by
    refine ⟨by have h := (en_nv (i := 0) Hr.2.1 rfl).2; exact h, by have h := (en_nv (i := 1) Hr.2.1 rfl).2; exact h, by have h := (en_nv (i := 2) Hr.2.1 rfl).2; exact h, trivial⟩
  have r0 : nv α1 0 = nv xs 0 := nv_le hle (by omega)
  have r1 : nv α1 1 = nv xs 1 := nv_le hle (by omega)
  have r2 : nv α1 2 = nv xs 2 := nv_le hle (by omega)
  refine hd_segMR G (na := 3) (fuel := 600) (first := true) (Bs := [kh_stormRow_b0_0]) (by decide +kernel) hl1 Hr ?_
  intro q hq β lv' st' S' H1
  simp only [List.mem_cons, List.not_mem_nil, or_false] at hq
  rcases hq with rfl
  · obtain ⟨f1, f2, f3, f4, f5⟩ := as_fx H1
    simp only [kh_stormRow_b0_0, Nat.reduceEqDiff, if_false, fx_env, fx_c, fx_ne, fx_hf, wl_S, Nat.zero_add, Nat.reduceAdd, Nat.reduceDiv, Nat.reduceMod, List.getElem?_cons_zero, List.getElem?_cons_succ, if_true, and_true, true_and] at f1 f2 f3 f4 f5
    have fe0 : nv β 0 = 805 := by omega
    have fe2 : nv β 2 = 0 := by omega
    have fe3 : nv β 3 = 806 := by omega
    have fe4 : nv β 4 = 500 := by omega
    have fe5 : nv β 5 = 4 := by omega
    try simp only [fe0, fe2, fe3, fe4, fe5, Int.reduceToNat] at f2 f3 f4 f5
    have s0 : nv β 0 = nv α1 0 := nv_le H1.1 (by omega)
    have s1 : nv β 1 = nv α1 1 := nv_le H1.1 (by omega)
    have s2 : nv β 2 = nv α1 2 := nv_le H1.1 (by omega)
    obtain ⟨c0, c1, c2, c3⟩ := f2
    have o0 := old_0 c0 rfl
    exact hd_retIR G (v := 9) (by decide +kernel) (as_backM H1 (by decide +kernel) hxa hf) _ List.mem_cons_self rfl (by decide +kernel) (by decide) (fun w hw => by cases hw) (fun y hy => ⟨y, rfl, by rw [hy, show 500 + 4 * (nv xs 1).toNat + (nv xs 2).toNat = (nv β 8).toNat by omega, o0]⟩))
theorem kh_stormRow_ok : ct_ok wd_fl2 kh_stormRow := ct_okR_ok kh_stormRow_okR
abbrev kh_mIsStorm_y : mt_T := (⟨"UtilityWorksModel", "isStorm", "(I)Z"⟩, prog_14_method_317_code, 2, some .boolean, 12, 1, 1, 33069, 33068, 6006, 21014)
def kh_mIsStorm : ct_T := (383, [(2, 805, 805, 0), (0, 0, 3, 1)], [], [], [(1, (0, 0, 1, 1), [(2, 805, 805, 0), (0, 0, 3, 1)], [], ([], []))], [], 1, 22, 0)
def kh_mIsStorm_a12 : an_T := (12, 0, ([((2, 805, 805, 0), none), ((0, 0, 3, 1), none), ((0, 0, 0, 0), none)], [(0, 0), (1, 1)], [2, 1, 0], [], [], [], [], [], none), [])
def kh_mIsStorm_a15 : an_T := (15, 0, ([((2, 805, 805, 0), none), ((0, 0, 3, 1), none), ((0, (-1), 2, 1), none)], [(0, 0), (1, 1)], [2], [], [], [], [], [], none), [])
def kh_mIsStorm_b0_0 : sg_T := (12, 0, ([((2, 805, 805, 0), none), ((0, 0, 3, 1), none), ((0, 0, 0, 0), none), ((0, 3, 3, 0), none), ((0, 1, 1, 0), none), ((0, 0, 0, 0), none)], [(0, 0), (1, 1)], [5, 1, 0], [], [(4, 0)], [], [], [], some []))
def kh_mIsStorm_b12_0 : sg_T := (15, 0, ([((2, 805, 805, 0), none), ((0, 0, 3, 1), none), ((0, 0, 0, 0), none), ((0, (-1), 2, 1), none)], [(0, 0), (1, 1)], [3], [], [], [], [], [], some []))
def kh_mIsStorm_b15_0 : sg_T := (24, 0, ([((2, 805, 805, 0), none), ((0, 0, 3, 1), none), ((0, (-1), (-1), 1), none), ((0, (-1), (-1), 0), none), ((0, 0, 0, 0), none)], [(0, 0), (1, 1)], [4], [], [], [(300000, 2, 3)], [], [], some []))
def kh_mIsStorm_b15_1 : sg_T := (24, 0, ([((2, 805, 805, 0), none), ((0, 0, 3, 1), none), ((0, 0, 2, 1), none), ((0, (-1), (-1), 0), none), ((0, 1, 1, 0), none)], [(0, 0), (1, 1)], [4], [], [(2, (-1))], [(400000, 2, 3)], [], [], some []))
def kh_mIsStorm_I (l : Launch) (D : va_G) (tc : Nat → ClassId) (ad : Nat → Nat) (kd : Nat → Nat × Nat) (N : Nat) (sm : Nat → Nat) (xs : List av_X) (S : fw_S) (p : Program) (e : Env) (s : State) (m : MethodId) (args : Array Value) (below : List Frame) (meth : Method) (c : Code) (sz : Nat) (k : Nat) : Prop := (∀ (α : List av_X) (lv : List (Nat × Value)) (st : List Value) (S1 : fw_S), as_in ad sm wd_fl2 xs S kh_mIsStorm.2.2.2.2.2.1 α kh_mIsStorm_a12.2.2.1 lv st S1 → (S1 = S ∧ nv α 2 = 0) → 5 < k → hd_WR R_mIsStorm wd_fl2 kh_mIsStorm kh_mIsStorm_y l D tc ad kd N sm xs S p e s m args below meth c sz 12 lv st S1 0) ∧ (∀ (α : List av_X) (lv : List (Nat × Value)) (st : List Value) (S1 : fw_S), as_in ad sm wd_fl2 xs S kh_mIsStorm.2.2.2.2.2.1 α kh_mIsStorm_a15.2.2.1 lv st S1 → (nv α 2 = (S.1 806 (500 + 4 * (nv xs 1).toNat + 0)).toInt) → 1 < k → hd_WR R_mIsStorm wd_fl2 kh_mIsStorm kh_mIsStorm_y l D tc ad kd N sm xs S p e s m args below meth c sz 15 lv st S1 0) ∧ True
set_option maxHeartbeats 16000000 in
set_option maxRecDepth 8000 in
theorem kh_mIsStorm_h12 {l : Launch} {D : va_G} {tc : Nat → ClassId} {ad : Nat → Nat} {kd : Nat → Nat × Nat} {N : Nat} {sm : Nat → Nat} {xs : List av_X} {S : fw_S} {p : Program} {e : Env} {s : State} {m : MethodId} {args : Array Value} {below : List Frame} {meth : Method} {c : Code} {sz : Nat} {lvE : List (Nat × Value)} (G : hd_C wd_ff2 wd_fl2 kh_mIsStorm [kh_869, kh_stormRow] kh_mIsStorm_y l D tc ad kd N sm xs p s m args meth c sz) (H0 : as_in ad sm wd_fl2 xs S kh_mIsStorm.2.2.2.2.2.1 xs (hd_0 kh_mIsStorm) lvE [] S) {k : Nat} (ih : kh_mIsStorm_I l D tc ad kd N sm xs S p e s m args below meth c sz k) : (∀ (α : List av_X) (lv : List (Nat × Value)) (st : List Value) (S1 : fw_S), as_in ad sm wd_fl2 xs S kh_mIsStorm.2.2.2.2.2.1 α kh_mIsStorm_a12.2.2.1 lv st S1 → (S1 = S ∧ nv α 2 = 0) → 5 < k + 1 → hd_WR R_mIsStorm wd_fl2 kh_mIsStorm kh_mIsStorm_y l D tc ad kd N sm xs S p e s m args below meth c sz 12 lv st S1 0) := by
  have hx : xs.length = 2 := by rw [H0.2.1.1]; rfl
  intro α lv st S1 H hp hk
  obtain ⟨α1, hle, Hr⟩ := as_recM (pl := []) [] (by decide +kernel) H
  have hf := H.2.2.2.2.2.2.2.2.2.2.1
  have hl1 : α1.length = 3 := by rw [Hr.2.1.1]; rfl
  have hl0 : α.length = 3 := by rw [H.2.1.1]; rfl
  have hxa : al_le xs α1 := H.1.trans hle
  obtain ⟨g1, -, g3, g4, -⟩ := as_fx Hr
  have g0 : (805 ≤ nv α1 0 ∧ nv α1 0 ≤ 805) ∧ (0 ≤ nv α1 1 ∧ nv α1 1 ≤ 3) ∧ (0 ≤ nv α1 2 ∧ nv α1 2 ≤ 0) ∧ True := by
    refine ⟨by have h := (en_nv (i := 0) Hr.2.1 rfl).2; exact h, by have h := (en_nv (i := 1) Hr.2.1 rfl).2; exact h, by have h := (en_nv (i := 2) Hr.2.1 rfl).2; exact h, trivial⟩
  have r0 : nv α1 0 = nv α 0 := nv_le hle (by omega)
  have r1 : nv α1 1 = nv α 1 := nv_le hle (by omega)
  have r2 : nv α1 2 = nv α 2 := nv_le hle (by omega)
  refine hd_callRR (Rr := R_stormCell) (Rs := [kh_stormRow]) (idx := 923) G (List.forall_mem_cons.mpr ⟨kh_stormRow_okR, List.forall_mem_nil _⟩) (na := 3) (Bs := [kh_mIsStorm_b12_0]) (by decide +kernel) (by decide +kernel) hl1 Hr ?_
  intro q hq β lv' st' S' H1 hRx
  simp only [List.mem_cons, List.not_mem_nil, or_false] at hq
  rcases hq with rfl
  · obtain ⟨f1, f2, f3, f4, f5⟩ := as_fx H1
    simp only [kh_mIsStorm_b12_0, Nat.reduceEqDiff, if_false, fx_env, fx_c, fx_ne, fx_hf, wl_S, Nat.zero_add, Nat.reduceAdd, Nat.reduceDiv, Nat.reduceMod, List.getElem?_cons_zero, List.getElem?_cons_succ, if_true, and_true, true_and] at f1 f2 f3 f4 f5
    have fe0 : nv β 0 = 805 := by omega
    have fe2 : nv β 2 = 0 := by omega
    try simp only [fe0, fe2, Int.reduceToNat] at f2 f3 f4 f5
    have s0 : nv β 0 = nv α1 0 := nv_le H1.1 (by omega)
    have s1 : nv β 1 = nv α1 1 := nv_le H1.1 (by omega)
    have s2 : nv β 2 = nv α1 2 := nv_le H1.1 (by omega)
    obtain ⟨α', Ha, hm⟩ := hd_gpM (q := kh_mIsStorm_a15) (n := 0) (by decide +kernel) hx H1 (by decide +kernel) hxa hf
    have hfr := H1.2.2.2.2.2.2.2.2.2.2.1
    have m0 : nv α' 0 = nv β 0 := hm 0 0 rfl
    have m1 : nv α' 1 = nv β 1 := hm 1 1 rfl
    have m2 : nv α' 2 = nv β 3 := hm 2 3 rfl
    subst S'
    obtain ⟨Cc, hCc, ys, rr, hnm, hR, rest, hre⟩ := hRx
    rcases List.mem_singleton.mp hCc with rfl
    have y1 : nv ys 1 = nv α1 1 := nm_nv hnm (i := 1) (v := 1) rfl
    have y2 : nv ys 2 = nv α1 2 := nm_nv hnm (i := 2) (v := 2) rfl
    obtain ⟨v, v1, v2⟩ := hR
    have hv := hd_rv H1 (i := 3) rfl rfl rfl hre (Sum.inl.inj v1)
    have z1 : nv α 1 = nv xs 1 := nv_le H.1 (by omega)
    rw [hv, y1, y2, hp.1, show nv α1 1 = nv xs 1 by omega, show nv α1 2 = 0 by have := hp.2; omega] at v2
    refine ih.2.1 _ _ _ _ Ha ?_ ?_
    · rw [m2]
      exact v2
    · omega
set_option maxHeartbeats 16000000 in
set_option maxRecDepth 8000 in
theorem kh_mIsStorm_h15 {l : Launch} {D : va_G} {tc : Nat → ClassId} {ad : Nat → Nat} {kd : Nat → Nat × Nat} {N : Nat} {sm : Nat → Nat} {xs : List av_X} {S : fw_S} {p : Program} {e : Env} {s : State} {m : MethodId} {args : Array Value} {below : List Frame} {meth : Method} {c : Code} {sz : Nat} {lvE : List (Nat × Value)} (G : hd_C wd_ff2 wd_fl2 kh_mIsStorm [kh_869, kh_stormRow] kh_mIsStorm_y l D tc ad kd N sm xs p s m args meth c sz) (H0 : as_in ad sm wd_fl2 xs S kh_mIsStorm.2.2.2.2.2.1 xs (hd_0 kh_mIsStorm) lvE [] S) {k : Nat} (ih : kh_mIsStorm_I l D tc ad kd N sm xs S p e s m args below meth c sz k) : (∀ (α : List av_X) (lv : List (Nat × Value)) (st : List Value) (S1 : fw_S), as_in ad sm wd_fl2 xs S kh_mIsStorm.2.2.2.2.2.1 α kh_mIsStorm_a15.2.2.1 lv st S1 → (nv α 2 = (S.1 806 (500 + 4 * (nv xs 1).toNat + 0)).toInt) → 1 < k + 1 → hd_WR R_mIsStorm wd_fl2 kh_mIsStorm kh_mIsStorm_y l D tc ad kd N sm xs S p e s m args below meth c sz 15 lv st S1 0) := by
  have hx : xs.length = 2 := by rw [H0.2.1.1]; rfl
  intro α lv st S1 H hp hk
  obtain ⟨α1, hle, Hr⟩ := as_recM (pl := []) [] (by decide +kernel) H
  have hf := H.2.2.2.2.2.2.2.2.2.2.1
  have hl1 : α1.length = 3 := by rw [Hr.2.1.1]; rfl
  have hl0 : α.length = 3 := by rw [H.2.1.1]; rfl
  have hxa : al_le xs α1 := H.1.trans hle
  obtain ⟨g1, -, g3, g4, -⟩ := as_fx Hr
  have g0 : (805 ≤ nv α1 0 ∧ nv α1 0 ≤ 805) ∧ (0 ≤ nv α1 1 ∧ nv α1 1 ≤ 3) ∧ ((-1) ≤ nv α1 2 ∧ nv α1 2 ≤ 2) ∧ True := by
    refine ⟨by have h := (en_nv (i := 0) Hr.2.1 rfl).2; exact h, by have h := (en_nv (i := 1) Hr.2.1 rfl).2; exact h, by have h := (en_nv (i := 2) Hr.2.1 rfl).2; exact h, trivial⟩
  have r0 : nv α1 0 = nv α 0 := nv_le hle (by omega)
  have r1 : nv α1 1 = nv α 1 := nv_le hle (by omega)
  have r2 : nv α1 2 = nv α 2 := nv_le hle (by omega)
  refine hd_segMR G (na := 3) (fuel := 600) (first := true) (Bs := [kh_mIsStorm_b15_0, kh_mIsStorm_b15_1]) (by decide +kernel) hl1 Hr ?_
  intro q hq β lv' st' S' H1
  simp only [List.mem_cons, List.not_mem_nil, or_false] at hq
  rcases hq with rfl | rfl
  · obtain ⟨f1, f2, f3, f4, f5⟩ := as_fx H1
    simp only [kh_mIsStorm_b15_0, Nat.reduceEqDiff, if_false, fx_env, fx_c, fx_ne, fx_hf, wl_S, Nat.zero_add, Nat.reduceAdd, Nat.reduceDiv, Nat.reduceMod, List.getElem?_cons_zero, List.getElem?_cons_succ, if_true, and_true, true_and] at f1 f2 f3 f4 f5
    have fe0 : nv β 0 = 805 := by omega
    have fe2 : nv β 2 = (-1) := by omega
    have fe3 : nv β 3 = (-1) := by omega
    have fe4 : nv β 4 = 0 := by omega
    try simp only [fe0, fe2, fe3, fe4, Int.reduceToNat] at f2 f3 f4 f5
    have s0 : nv β 0 = nv α1 0 := nv_le H1.1 (by omega)
    have s1 : nv β 1 = nv α1 1 := nv_le H1.1 (by omega)
    have s2 : nv β 2 = nv α1 2 := nv_le H1.1 (by omega)
    have c0 := f2
    have p1 : nv α 2 = mrw S (nv xs 1).toNat := hp
    exact hd_retIR G (v := 4) (by decide +kernel) (as_backM H1 (by decide +kernel) hxa hf) _ List.mem_cons_self rfl (by decide +kernel) (by decide) (fun w hw => by cases hw) (fun y hy => ⟨y, rfl, by rw [hy, ← p1]; unfold b2i; split <;> omega⟩)
  · obtain ⟨f1, f2, f3, f4, f5⟩ := as_fx H1
    simp only [kh_mIsStorm_b15_1, Nat.reduceEqDiff, if_false, fx_env, fx_c, fx_ne, fx_hf, wl_S, Nat.zero_add, Nat.reduceAdd, Nat.reduceDiv, Nat.reduceMod, List.getElem?_cons_zero, List.getElem?_cons_succ, if_true, and_true, true_and] at f1 f2 f3 f4 f5
    have fe0 : nv β 0 = 805 := by omega
    have fe3 : nv β 3 = (-1) := by omega
    have fe4 : nv β 4 = 1 := by omega
    try simp only [fe0, fe3, fe4, Int.reduceToNat] at f2 f3 f4 f5
    have s0 : nv β 0 = nv α1 0 := nv_le H1.1 (by omega)
    have s1 : nv β 1 = nv α1 1 := nv_le H1.1 (by omega)
    have s2 : nv β 2 = nv α1 2 := nv_le H1.1 (by omega)
    have c0 := f2
    have p1 : nv α 2 = mrw S (nv xs 1).toNat := hp
    exact hd_retIR G (v := 4) (by decide +kernel) (as_backM H1 (by decide +kernel) hxa hf) _ List.mem_cons_self rfl (by decide +kernel) (by decide) (fun w hw => by cases hw) (fun y hy => ⟨y, rfl, by rw [hy, ← p1]; unfold b2i; split <;> omega⟩)
set_option maxHeartbeats 16000000 in
set_option maxRecDepth 8000 in
theorem kh_mIsStorm_okR : ct_okR wd_fl2 kh_mIsStorm R_mIsStorm := ct_handR (R := R_mIsStorm) (ff := wd_ff2) (y := kh_mIsStorm_y) (Cs := [kh_869, kh_stormRow]) wd_fl2_ok rfl (List.forall_mem_cons.mpr ⟨kh_869_ok, (List.forall_mem_cons.mpr ⟨kh_stormRow_ok, (List.forall_mem_nil _)⟩)⟩) (by decide +kernel) (fun l D tc ad kd N sm xs S p e s m args below meth c sz lv G H0 => by
  have hx : xs.length = 2 := by rw [H0.2.1.1]; rfl
  have hP : ∀ (k : Nat), kh_mIsStorm_I l D tc ad kd N sm xs S p e s m args below meth c sz k := by
    intro k
    induction k with
    | zero => exact ⟨fun _ _ _ _ _ _ h => absurd h (Nat.not_lt_zero _), fun _ _ _ _ _ _ h => absurd h (Nat.not_lt_zero _), trivial⟩
    | succ k ih => exact ⟨kh_mIsStorm_h12 G H0 ih, kh_mIsStorm_h15 G H0 ih, trivial⟩
  obtain ⟨α1, hle, Hr⟩ := as_recM (pl := []) [] (by decide +kernel) H0
  have hf := H0.2.2.2.2.2.2.2.2.2.2.1
  have hl1 : α1.length = 2 := by rw [Hr.2.1.1]; rfl
  have hl0 : xs.length = 2 := by rw [H0.2.1.1]; rfl
  have hxa : al_le xs α1 := H0.1.trans hle
  obtain ⟨g1, -, g3, g4, -⟩ := as_fx Hr
  have g0 : (805 ≤ nv α1 0 ∧ nv α1 0 ≤ 805) ∧ (0 ≤ nv α1 1 ∧ nv α1 1 ≤ 3) ∧ True := by
    refine ⟨by have h := (en_nv (i := 0) Hr.2.1 rfl).2; exact h, by have h := (en_nv (i := 1) Hr.2.1 rfl).2; exact h, trivial⟩
  have r0 : nv α1 0 = nv xs 0 := nv_le hle (by omega)
  have r1 : nv α1 1 = nv xs 1 := nv_le hle (by omega)
  refine hd_segMR G (na := 2) (fuel := 600) (first := true) (Bs := [kh_mIsStorm_b0_0]) (by decide +kernel) hl1 Hr ?_
  intro q hq β lv' st' S' H1
  simp only [List.mem_cons, List.not_mem_nil, or_false] at hq
  rcases hq with rfl
  · obtain ⟨f1, f2, f3, f4, f5⟩ := as_fx H1
    simp only [kh_mIsStorm_b0_0, Nat.reduceEqDiff, if_false, fx_env, fx_c, fx_ne, fx_hf, wl_S, Nat.zero_add, Nat.reduceAdd, Nat.reduceDiv, Nat.reduceMod, List.getElem?_cons_zero, List.getElem?_cons_succ, if_true, and_true, true_and] at f1 f2 f3 f4 f5
    have fe0 : nv β 0 = 805 := by omega
    have fe2 : nv β 2 = 0 := by omega
    have fe3 : nv β 3 = 3 := by omega
    have fe4 : nv β 4 = 1 := by omega
    have fe5 : nv β 5 = 0 := by omega
    try simp only [fe0, fe2, fe3, fe4, fe5, Int.reduceToNat] at f2 f3 f4 f5
    have s0 : nv β 0 = nv α1 0 := nv_le H1.1 (by omega)
    have s1 : nv β 1 = nv α1 1 := nv_le H1.1 (by omega)
    obtain ⟨α', Ha, hm⟩ := hd_gpM (q := kh_mIsStorm_a12) (n := 0) (by decide +kernel) hx H1 (by decide +kernel) hxa hf
    have hfr := H1.2.2.2.2.2.2.2.2.2.2.1
    have m0 : nv α' 0 = nv β 0 := hm 0 0 rfl
    have m1 : nv α' 1 = nv β 1 := hm 1 1 rfl
    have m2 : nv α' 2 = nv β 5 := hm 2 5 rfl
    subst S'
    refine (hP _).1 _ _ _ _ Ha ?_ (Nat.lt_succ_self _)
    · rw [m2]
      exact ⟨rfl, by omega⟩)
theorem kh_mIsStorm_ok : ct_ok wd_fl2 kh_mIsStorm := ct_okR_ok kh_mIsStorm_okR
abbrev kh_drawn_y : mt_T := (⟨"UtilityWorksModel", "drawn", "()I"⟩, prog_14_method_320_code, 1, some .int, 12, 1, 0, 33060, 33059, 6004, 21014)
def kh_drawn : ct_T := (381, [(2, 805, 805, 0)], [], [], [(1, (0, 0, 65536, 1), [(2, 805, 805, 0)], [], ([], []))], [], 0, 0, 0)
def kh_drawn_b0_0 : sg_T := (16, 0, ([((2, 805, 805, 0), none), ((0, 75, 75, 0), none), ((2, 806, 806, 1), none), ((0, 5, 5, 0), none), ((0, 0, 65536, 1), none), ((0, 0, 4915200, 75), none), ((0, 74, 74, 0), none), ((0, 74, 4915274, 75), some (5, 74)), ((0, 65537, 65537, 0), none), ((0, 0, 65536, 1), none)], [(0, 0)], [9], [(2, 3, 4)], [], [(900200009, 7, 8), (500007, 5, 6), (700005, 1, 4), (800004, 2, 3)], [], [], some []))
set_option maxHeartbeats 16000000 in
set_option maxRecDepth 8000 in
theorem kh_drawn_okR : ct_okR wd_fl2 kh_drawn R_drawn := ct_handR (R := R_drawn) (ff := wd_ff2) (y := kh_drawn_y) (Cs := []) wd_fl2_ok rfl (List.forall_mem_nil _) (by decide +kernel) (fun l D tc ad kd N sm xs S p e s m args below meth c sz lv G H0 => by
  have hx : xs.length = 1 := by rw [H0.2.1.1]; rfl
  obtain ⟨α1, hle, Hr⟩ := as_recM (pl := []) [] (by decide +kernel) H0
  have hf := H0.2.2.2.2.2.2.2.2.2.2.1
  have hl1 : α1.length = 1 := by rw [Hr.2.1.1]; rfl
  have hl0 : xs.length = 1 := by rw [H0.2.1.1]; rfl
  have hxa : al_le xs α1 := H0.1.trans hle
  obtain ⟨g1, -, g3, g4, -⟩ := as_fx Hr
  have g0 : (805 ≤ nv α1 0 ∧ nv α1 0 ≤ 805) ∧ True := by
    refine ⟨by have h := (en_nv (i := 0) Hr.2.1 rfl).2; exact h, trivial⟩
  have r0 : nv α1 0 = nv xs 0 := nv_le hle (by omega)
  refine hd_segMR G (na := 1) (fuel := 600) (first := true) (Bs := [kh_drawn_b0_0]) (by decide +kernel) hl1 Hr ?_
  intro q hq β lv' st' S' H1
  simp only [List.mem_cons, List.not_mem_nil, or_false] at hq
  rcases hq with rfl
  · obtain ⟨f1, f2, f3, f4, f5⟩ := as_fx H1
    simp only [kh_drawn_b0_0, Nat.reduceEqDiff, if_false, fx_env, fx_c, fx_ne, fx_hf, wl_S, Nat.zero_add, Nat.reduceAdd, Nat.reduceDiv, Nat.reduceMod, List.getElem?_cons_zero, List.getElem?_cons_succ, if_true, and_true, true_and] at f1 f2 f3 f4 f5
    have fe0 : nv β 0 = 805 := by omega
    have fe1 : nv β 1 = 75 := by omega
    have fe2 : nv β 2 = 806 := by omega
    have fe3 : nv β 3 = 5 := by omega
    have fe6 : nv β 6 = 74 := by omega
    have fe8 : nv β 8 = 65537 := by omega
    try simp only [fe0, fe1, fe2, fe3, fe6, fe8, Int.reduceToNat] at f2 f3 f4 f5
    have s0 : nv β 0 = nv α1 0 := nv_le H1.1 (by omega)
    obtain ⟨c0, c1, c2, c3⟩ := f2
    have o3 := old_0 c3 rfl
    exact hd_retIR G (v := 9) (by decide +kernel) (as_backM H1 (by decide +kernel) hxa hf) _ List.mem_cons_self rfl (by decide +kernel) (by decide) (fun w hw => by cases hw) (fun y hy => ⟨y, rfl, by rw [hy, o3]; unfold nxtS; omega⟩))
theorem kh_drawn_ok : ct_ok wd_fl2 kh_drawn := ct_okR_ok kh_drawn_okR
abbrev kh_draw_y : mt_T := (⟨"UtilityWorksModel", "draw", "()V"⟩, prog_14_method_323_code, 2, none, 12, 1, 0, 33056, 33055, 6003, 21014)
def kh_draw : ct_T := (380, [(2, 805, 805, 0)], [], [], [(0, (0, 0, 0, 0), [(2, 805, 805, 0)], [], ([], []))], [((806, 806), (1, 1, 0)), ((806, 806), (2, 2, 0)), ((806, 806), (3, 3, 0)), ((806, 806), (5, 5, 0))], 1, 20, 0)
def kh_draw_a1 : an_T := (1, 0, ([((2, 805, 805, 0), none)], [(0, 0)], [0], [], [], [], [], [], none), [])
def kh_draw_a4 : an_T := (4, 0, ([((2, 805, 805, 0), none), ((0, 0, 65536, 1), none)], [(0, 0)], [1], [], [], [], [], [], none), [])
def kh_draw_b0_0 : sg_T := (1, 0, ([((2, 805, 805, 0), none)], [(0, 0)], [0], [], [], [], [], [], some []))
def kh_draw_b1_0 : sg_T := (4, 0, ([((2, 805, 805, 0), none), ((0, 0, 65536, 1), none)], [(0, 0)], [1], [], [], [], [], [], some []))
def kh_draw_b4_0 : sg_T := (52, 0, ([((2, 805, 805, 0), none), ((0, 0, 65536, 1), none), ((2, 806, 806, 1), none), ((0, 5, 5, 0), none), ((2, 806, 806, 1), none), ((0, 1, 1, 0), none), ((0, 31, 31, 0), none), ((0, 0, 30, 1), none), ((0, 10, 10, 0), none), ((0, (-10), 20, 1), some (7, (-10))), ((2, 806, 806, 1), none), ((0, 2, 2, 0), none), ((0, 31, 31, 0), none), ((0, 0, 2114, 1), none), ((0, 10, 10, 0), none), ((0, 0, 9, 1), none), ((2, 806, 806, 1), none), ((0, 3, 3, 0), none), ((0, 310, 310, 0), none), ((0, 0, 211, 1), none), ((0, 10, 10, 0), none), ((0, 0, 9, 1), none)], [(1, 1), (0, 0)], [], [(16, 17, 21), (10, 11, 15), (4, 5, 9), (2, 3, 1)], [], [(900200021, 19, 20), (900019, 1, 18), (900200015, 13, 14), (900013, 1, 12), (600009, 7, 8), (900200007, 1, 6)], [], [], some [(16, 17, 21), (10, 11, 15), (4, 5, 9), (2, 3, 1)]))
def kh_draw_I (l : Launch) (D : va_G) (tc : Nat → ClassId) (ad : Nat → Nat) (kd : Nat → Nat × Nat) (N : Nat) (sm : Nat → Nat) (xs : List av_X) (S : fw_S) (p : Program) (e : Env) (s : State) (m : MethodId) (args : Array Value) (below : List Frame) (meth : Method) (c : Code) (sz : Nat) (k : Nat) : Prop := (∀ (α : List av_X) (lv : List (Nat × Value)) (st : List Value) (S1 : fw_S), as_in ad sm wd_fl2 xs S kh_draw.2.2.2.2.2.1 α kh_draw_a1.2.2.1 lv st S1 → (S1 = S) → 5 < k → hd_WR R_draw wd_fl2 kh_draw kh_draw_y l D tc ad kd N sm xs S p e s m args below meth c sz 1 lv st S1 0) ∧ (∀ (α : List av_X) (lv : List (Nat × Value)) (st : List Value) (S1 : fw_S), as_in ad sm wd_fl2 xs S kh_draw.2.2.2.2.2.1 α kh_draw_a4.2.2.1 lv st S1 → (S1 = S ∧ nv α 1 = nxtS (S.1 806 5).toInt) → 1 < k → hd_WR R_draw wd_fl2 kh_draw kh_draw_y l D tc ad kd N sm xs S p e s m args below meth c sz 4 lv st S1 0) ∧ True
set_option maxHeartbeats 16000000 in
set_option maxRecDepth 8000 in
theorem kh_draw_h1 {l : Launch} {D : va_G} {tc : Nat → ClassId} {ad : Nat → Nat} {kd : Nat → Nat × Nat} {N : Nat} {sm : Nat → Nat} {xs : List av_X} {S : fw_S} {p : Program} {e : Env} {s : State} {m : MethodId} {args : Array Value} {below : List Frame} {meth : Method} {c : Code} {sz : Nat} {lvE : List (Nat × Value)} (G : hd_C wd_ff2 wd_fl2 kh_draw [kh_drawn] kh_draw_y l D tc ad kd N sm xs p s m args meth c sz) (H0 : as_in ad sm wd_fl2 xs S kh_draw.2.2.2.2.2.1 xs (hd_0 kh_draw) lvE [] S) {k : Nat} (ih : kh_draw_I l D tc ad kd N sm xs S p e s m args below meth c sz k) : (∀ (α : List av_X) (lv : List (Nat × Value)) (st : List Value) (S1 : fw_S), as_in ad sm wd_fl2 xs S kh_draw.2.2.2.2.2.1 α kh_draw_a1.2.2.1 lv st S1 → (S1 = S) → 5 < k + 1 → hd_WR R_draw wd_fl2 kh_draw kh_draw_y l D tc ad kd N sm xs S p e s m args below meth c sz 1 lv st S1 0) := by
  have hx : xs.length = 1 := by rw [H0.2.1.1]; rfl
  intro α lv st S1 H hp hk
  obtain ⟨α1, hle, Hr⟩ := as_recM (pl := []) [] (by decide +kernel) H
  have hf := H.2.2.2.2.2.2.2.2.2.2.1
  have hl1 : α1.length = 1 := by rw [Hr.2.1.1]; rfl
  have hl0 : α.length = 1 := by rw [H.2.1.1]; rfl
  have hxa : al_le xs α1 := H.1.trans hle
  obtain ⟨g1, -, g3, g4, -⟩ := as_fx Hr
  have g0 : (805 ≤ nv α1 0 ∧ nv α1 0 ≤ 805) ∧ True := by
    refine ⟨by have h := (en_nv (i := 0) Hr.2.1 rfl).2; exact h, trivial⟩
  have r0 : nv α1 0 = nv α 0 := nv_le hle (by omega)
  refine hd_callRR (Rr := R_drawn) (Rs := [kh_drawn]) (idx := 933) G (List.forall_mem_cons.mpr ⟨kh_drawn_okR, List.forall_mem_nil _⟩) (na := 1) (Bs := [kh_draw_b1_0]) (by decide +kernel) (by decide +kernel) hl1 Hr ?_
  intro q hq β lv' st' S' H1 hRx
  simp only [List.mem_cons, List.not_mem_nil, or_false] at hq
  rcases hq with rfl
  · obtain ⟨f1, f2, f3, f4, f5⟩ := as_fx H1
    simp only [kh_draw_b1_0, Nat.reduceEqDiff, if_false, fx_env, fx_c, fx_ne, fx_hf, wl_S, Nat.zero_add, Nat.reduceAdd, Nat.reduceDiv, Nat.reduceMod, List.getElem?_cons_zero, List.getElem?_cons_succ, if_true, and_true, true_and] at f1 f2 f3 f4 f5
    have fe0 : nv β 0 = 805 := by omega
    try simp only [fe0, Int.reduceToNat] at f2 f3 f4 f5
    have s0 : nv β 0 = nv α1 0 := nv_le H1.1 (by omega)
    obtain ⟨α', Ha, hm⟩ := hd_gpM (q := kh_draw_a4) (n := 0) (by decide +kernel) hx H1 (by decide +kernel) hxa hf
    have hfr := H1.2.2.2.2.2.2.2.2.2.2.1
    have m0 : nv α' 0 = nv β 0 := hm 0 0 rfl
    have m1 : nv α' 1 = nv β 1 := hm 1 1 rfl
    obtain ⟨Cc, hCc, ys, rr, hnm, hR, rest, hre⟩ := hRx
    rcases List.mem_singleton.mp hCc with rfl
    obtain ⟨v, v1, v2⟩ := hR
    have hv := hd_rv H1 (i := 1) rfl rfl rfl hre (Sum.inl.inj v1)
    rw [hv, hp] at v2
    refine ih.2.1 _ _ _ _ Ha ?_ ?_
    · rw [m1]
      exact ⟨f5.trans hp, v2⟩
    · omega
set_option maxHeartbeats 16000000 in
set_option maxRecDepth 8000 in
theorem kh_draw_h4 {l : Launch} {D : va_G} {tc : Nat → ClassId} {ad : Nat → Nat} {kd : Nat → Nat × Nat} {N : Nat} {sm : Nat → Nat} {xs : List av_X} {S : fw_S} {p : Program} {e : Env} {s : State} {m : MethodId} {args : Array Value} {below : List Frame} {meth : Method} {c : Code} {sz : Nat} {lvE : List (Nat × Value)} (G : hd_C wd_ff2 wd_fl2 kh_draw [kh_drawn] kh_draw_y l D tc ad kd N sm xs p s m args meth c sz) (H0 : as_in ad sm wd_fl2 xs S kh_draw.2.2.2.2.2.1 xs (hd_0 kh_draw) lvE [] S) {k : Nat} (ih : kh_draw_I l D tc ad kd N sm xs S p e s m args below meth c sz k) : (∀ (α : List av_X) (lv : List (Nat × Value)) (st : List Value) (S1 : fw_S), as_in ad sm wd_fl2 xs S kh_draw.2.2.2.2.2.1 α kh_draw_a4.2.2.1 lv st S1 → (S1 = S ∧ nv α 1 = nxtS (S.1 806 5).toInt) → 1 < k + 1 → hd_WR R_draw wd_fl2 kh_draw kh_draw_y l D tc ad kd N sm xs S p e s m args below meth c sz 4 lv st S1 0) := by
  have hx : xs.length = 1 := by rw [H0.2.1.1]; rfl
  intro α lv st S1 H hp hk
  obtain ⟨α1, hle, Hr⟩ := as_recM (pl := []) [((806, 806), (1, 1, 0)), ((806, 806), (2, 2, 0)), ((806, 806), (3, 3, 0)), ((806, 806), (5, 5, 0))] (by decide +kernel) H
  have hf := H.2.2.2.2.2.2.2.2.2.2.1
  have hl1 : α1.length = 2 := by rw [Hr.2.1.1]; rfl
  have hl0 : α.length = 2 := by rw [H.2.1.1]; rfl
  have hxa : al_le xs α1 := H.1.trans hle
  obtain ⟨g1, -, g3, g4, -⟩ := as_fx Hr
  have g0 : (805 ≤ nv α1 0 ∧ nv α1 0 ≤ 805) ∧ (0 ≤ nv α1 1 ∧ nv α1 1 ≤ 65536) ∧ True := by
    refine ⟨by have h := (en_nv (i := 0) Hr.2.1 rfl).2; exact h, by have h := (en_nv (i := 1) Hr.2.1 rfl).2; exact h, trivial⟩
  have r0 : nv α1 0 = nv α 0 := nv_le hle (by omega)
  have r1 : nv α1 1 = nv α 1 := nv_le hle (by omega)
  refine hd_segMR G (na := 2) (fuel := 600) (first := true) (Bs := [kh_draw_b4_0]) (by decide +kernel) hl1 Hr ?_
  intro q hq β lv' st' S' H1
  simp only [List.mem_cons, List.not_mem_nil, or_false] at hq
  rcases hq with rfl
  · obtain ⟨f1, f2, f3, f4, f5⟩ := as_fx H1
    simp only [kh_draw_b4_0, Nat.reduceEqDiff, if_false, fx_env, fx_c, fx_ne, fx_hf, wl_S, Nat.zero_add, Nat.reduceAdd, Nat.reduceDiv, Nat.reduceMod, List.getElem?_cons_zero, List.getElem?_cons_succ, if_true, and_true, true_and] at f1 f2 f3 f4 f5
    have fe0 : nv β 0 = 805 := by omega
    have fe2 : nv β 2 = 806 := by omega
    have fe3 : nv β 3 = 5 := by omega
    have fe4 : nv β 4 = 806 := by omega
    have fe5 : nv β 5 = 1 := by omega
    have fe6 : nv β 6 = 31 := by omega
    have fe8 : nv β 8 = 10 := by omega
    have fe10 : nv β 10 = 806 := by omega
    have fe11 : nv β 11 = 2 := by omega
    have fe12 : nv β 12 = 31 := by omega
    have fe14 : nv β 14 = 10 := by omega
    have fe16 : nv β 16 = 806 := by omega
    have fe17 : nv β 17 = 3 := by omega
    have fe18 : nv β 18 = 310 := by omega
    have fe20 : nv β 20 = 10 := by omega
    try simp only [fe0, fe2, fe3, fe4, fe5, fe6, fe8, fe10, fe11, fe12, fe14, fe16, fe17, fe18, fe20, Int.reduceToNat] at f2 f3 f4 f5
    have s0 : nv β 0 = nv α1 0 := nv_le H1.1 (by omega)
    have s1 : nv β 1 = nv α1 1 := nv_le H1.1 (by omega)
    obtain ⟨c0, c1, c2, c3, c4, c5⟩ := f2
    have wA : ∀ a b : Nat, S'.1 a b = (if a = 806 ∧ b = 3 then Int32.ofInt (nv β 21) else (if a = 806 ∧ b = 2 then Int32.ofInt (nv β 15) else (if a = 806 ∧ b = 1 then Int32.ofInt (nv β 9) else (if a = 806 ∧ b = 5 then Int32.ofInt (nv β 1) else (S1.1 a b))))) := fun a b => by rw [f5]; rfl
    obtain ⟨p1, p2⟩ := hp
    exact hd_retVR G (by decide +kernel) (as_backM H1 (by decide +kernel) hxa hf) (by decide +kernel) (by decide) (by
      refine ⟨?_, ?_⟩
      · rw [wA, ← p2]; (repeat' split) <;> first | (exfalso; omega) | rfl | (rw [i32_of (by omega) (by omega)] <;> omega) | omega
      · rw [wA, ← p2]; (repeat' split) <;> first | (exfalso; omega) | rfl | (rw [i32_of (by omega) (by omega)] <;> omega) | omega)
set_option maxHeartbeats 16000000 in
set_option maxRecDepth 8000 in
theorem kh_draw_okR : ct_okR wd_fl2 kh_draw R_draw := ct_handR (R := R_draw) (ff := wd_ff2) (y := kh_draw_y) (Cs := [kh_drawn]) wd_fl2_ok rfl (List.forall_mem_cons.mpr ⟨kh_drawn_ok, (List.forall_mem_nil _)⟩) (by decide +kernel) (fun l D tc ad kd N sm xs S p e s m args below meth c sz lv G H0 => by
  have hx : xs.length = 1 := by rw [H0.2.1.1]; rfl
  have hP : ∀ (k : Nat), kh_draw_I l D tc ad kd N sm xs S p e s m args below meth c sz k := by
    intro k
    induction k with
    | zero => exact ⟨fun _ _ _ _ _ _ h => absurd h (Nat.not_lt_zero _), fun _ _ _ _ _ _ h => absurd h (Nat.not_lt_zero _), trivial⟩
    | succ k ih => exact ⟨kh_draw_h1 G H0 ih, kh_draw_h4 G H0 ih, trivial⟩
  obtain ⟨α1, hle, Hr⟩ := as_recM (pl := []) [] (by decide +kernel) H0
  have hf := H0.2.2.2.2.2.2.2.2.2.2.1
  have hl1 : α1.length = 1 := by rw [Hr.2.1.1]; rfl
  have hl0 : xs.length = 1 := by rw [H0.2.1.1]; rfl
  have hxa : al_le xs α1 := H0.1.trans hle
  obtain ⟨g1, -, g3, g4, -⟩ := as_fx Hr
  have g0 : (805 ≤ nv α1 0 ∧ nv α1 0 ≤ 805) ∧ True := by
    refine ⟨by have h := (en_nv (i := 0) Hr.2.1 rfl).2; exact h, trivial⟩
  have r0 : nv α1 0 = nv xs 0 := nv_le hle (by omega)
  refine hd_segMR G (na := 1) (fuel := 600) (first := true) (Bs := [kh_draw_b0_0]) (by decide +kernel) hl1 Hr ?_
  intro q hq β lv' st' S' H1
  simp only [List.mem_cons, List.not_mem_nil, or_false] at hq
  rcases hq with rfl
  · obtain ⟨f1, f2, f3, f4, f5⟩ := as_fx H1
    simp only [kh_draw_b0_0, Nat.reduceEqDiff, if_false, fx_env, fx_c, fx_ne, fx_hf, wl_S, Nat.zero_add, Nat.reduceAdd, Nat.reduceDiv, Nat.reduceMod, List.getElem?_cons_zero, List.getElem?_cons_succ, if_true, and_true, true_and] at f1 f2 f3 f4 f5
    have fe0 : nv β 0 = 805 := by omega
    try simp only [fe0, Int.reduceToNat] at f2 f3 f4 f5
    have s0 : nv β 0 = nv α1 0 := nv_le H1.1 (by omega)
    obtain ⟨α', Ha, hm⟩ := hd_gpM (q := kh_draw_a1) (n := 0) (by decide +kernel) hx H1 (by decide +kernel) hxa hf
    have hfr := H1.2.2.2.2.2.2.2.2.2.2.1
    have m0 : nv α' 0 = nv β 0 := hm 0 0 rfl
    refine (hP _).1 _ _ _ _ Ha ?_ (Nat.lt_succ_self _)
    · exact f5)
theorem kh_draw_ok : ct_ok wd_fl2 kh_draw := ct_okR_ok kh_draw_okR
abbrev kh_stormsGo_y : mt_T := (⟨"UtilityWorksModel", "stormsGo", "()V"⟩, prog_14_method_324_code, 2, none, 12, 1, 0, 33065, 33064, 6005, 21014)
def kh_stormsGo : ct_T := (382, [(2, 805, 805, 0)], [], [], [(0, (0, 0, 0, 0), [(2, 805, 805, 0)], [], ([], []))], [((806, 806), (500, 512, 4)), ((806, 806), (502, 514, 4))], 2, 43, 0)
def kh_stormsGo_a2 : an_T := (2, 0, ([((2, 805, 805, 0), none), ((0, 0, 4, 1), none)], [(0, 0), (1, 1)], [], [], [], [], [], [], none), [])
def kh_stormsGo_a9 : an_T := (9, 0, ([((2, 805, 805, 0), none), ((0, 0, 3, 1), none), ((0, 0, 3, 1), none)], [(0, 0), (1, 1)], [2, 0], [], [], [], [], [], none), [])
def kh_stormsGo_a12 : an_T := (12, 0, ([((2, 805, 805, 0), none), ((0, 0, 3, 1), none), ((0, 0, 1, 1), none)], [(0, 0), (1, 1)], [2], [], [], [], [], [], none), [])
def kh_stormsGo_a33 : an_T := (33, 0, ([((2, 805, 805, 0), none), ((0, 0, 3, 1), none)], [(0, 0), (1, 1)], [], [], [], [], [], [], none), [])
def kh_stormsGo_a47 : an_T := (47, 0, ([((2, 805, 805, 0), none), ((0, 0, 3, 1), none), ((0, 2, 2, 0), none), ((0, 0, 3, 1), none), ((0, 500, 512, 4), none), ((2, 806, 806, 1), none)], [(0, 0), (1, 1)], [2, 3, 0, 4, 5], [], [], [], [], [], none), [])
def kh_stormsGo_a50 : an_T := (50, 0, ([((2, 805, 805, 0), none), ((0, 0, 3, 1), none), ((0, (-2147483648), 2147483647, 1), none), ((0, 500, 512, 4), none), ((2, 806, 806, 1), none)], [(0, 0), (1, 1)], [2, 3, 4], [], [], [], [], [], none), [])
def kh_stormsGo_a61 : an_T := (61, 0, ([((2, 805, 805, 0), none), ((0, 0, 3, 1), none), ((0, 0, 0, 0), none), ((0, 0, 3, 1), none), ((0, 500, 512, 4), none), ((2, 806, 806, 1), none)], [(0, 0), (1, 1)], [2, 3, 0, 4, 5], [], [], [], [], [], none), [])
def kh_stormsGo_a64 : an_T := (64, 0, ([((2, 805, 805, 0), none), ((0, 0, 3, 1), none), ((0, (-1), 2, 1), none), ((0, 500, 512, 4), none), ((2, 806, 806, 1), none)], [(0, 0), (1, 1)], [2, 3, 4], [], [], [], [], [], none), [])
def kh_stormsGo_b0_0 : sg_T := (2, 0, ([((2, 805, 805, 0), none), ((0, 0, 0, 0), none)], [(1, 1), (0, 0)], [], [], [], [], [], [], some []))
def kh_stormsGo_b2_0 : sg_T := (71, 0, ([((2, 805, 805, 0), none), ((0, 4, 4, 1), none), ((0, 4, 4, 0), none)], [(0, 0), (1, 1)], [], [], [], [(200000, 2, 1)], [], [], some []))
def kh_stormsGo_b2_1 : sg_T := (9, 0, ([((2, 805, 805, 0), none), ((0, 0, 3, 1), none), ((0, 4, 4, 0), none)], [(0, 0), (1, 1)], [1, 0], [], [], [(100000, 1, 2)], [], [], some []))
def kh_stormsGo_b9_0 : sg_T := (12, 0, ([((2, 805, 805, 0), none), ((0, 0, 3, 1), none), ((0, 0, 3, 1), none), ((0, 0, 1, 1), none)], [(0, 0), (1, 1)], [3], [], [], [], [], [], some []))
def kh_stormsGo_b12_0 : sg_T := (2, 0, ([((2, 805, 805, 0), none), ((0, 0, 3, 1), none), ((0, 0, 0, 1), none), ((0, 1, 4, 1), some (1, 1))], [(1, 3), (0, 0)], [], [], [], [], [], [], some []))
def kh_stormsGo_b12_1 : sg_T := (33, 0, ([((2, 805, 805, 0), none), ((0, 0, 3, 1), none), ((0, 1, 1, 1), none), ((2, 806, 806, 1), none), ((0, 500, 500, 0), none), ((0, 4, 4, 0), none), ((0, 0, 12, 4), none), ((0, 500, 512, 4), none), ((0, 2, 2, 0), none), ((0, 502, 514, 4), some (7, 2)), ((0, (-2147483648), 2147483647, 1), none), ((0, 1, 1, 0), none), ((0, (-2147483648), 2147483647, 1), none)], [(0, 0), (1, 1)], [], [(3, 9, 12)], [(2, 0)], [(900000012, 10, 11), (800010, 3, 9), (500009, 7, 8), (500007, 4, 6), (700006, 5, 1)], [], [], some [(3, 9, 12)]))
def kh_stormsGo_b33_0 : sg_T := (47, 0, ([((2, 805, 805, 0), none), ((0, 0, 3, 1), none), ((2, 806, 806, 1), none), ((0, 500, 500, 0), none), ((0, 4, 4, 0), none), ((0, 0, 12, 4), none), ((0, 500, 512, 4), none), ((0, 2, 2, 0), none)], [(0, 0), (1, 1)], [7, 1, 0, 6, 2], [], [], [(500006, 3, 5), (700005, 4, 1)], [], [], some []))
def kh_stormsGo_b47_0 : sg_T := (50, 0, ([((2, 805, 805, 0), none), ((0, 0, 3, 1), none), ((0, 2, 2, 0), none), ((0, 0, 3, 1), none), ((0, 500, 512, 4), none), ((2, 806, 806, 1), none), ((0, (-2147483648), 2147483647, 1), none)], [(0, 0), (1, 1)], [6, 4, 5], [], [], [], [], [], some []))
def kh_stormsGo_b50_0 : sg_T := (61, 0, ([((2, 805, 805, 0), none), ((0, 0, 3, 1), none), ((0, (-2147483648), 3, 1), none), ((0, 500, 512, 4), none), ((2, 806, 806, 1), none), ((0, 3, 3, 0), none), ((0, 0, 0, 0), none)], [(0, 0), (1, 1)], [6, 1, 0, 3, 4], [], [], [(200000, 2, 5)], [], [], some []))
def kh_stormsGo_b50_1 : sg_T := (64, 0, ([((2, 805, 805, 0), none), ((0, 0, 3, 1), none), ((0, 4, 2147483647, 1), none), ((0, 500, 512, 4), none), ((2, 806, 806, 1), none), ((0, 3, 3, 0), none), ((0, (-1), (-1), 0), none)], [(0, 0), (1, 1)], [6, 3, 4], [], [], [(100000, 5, 2)], [], [], some []))
def kh_stormsGo_b61_0 : sg_T := (64, 0, ([((2, 805, 805, 0), none), ((0, 0, 3, 1), none), ((0, 0, 0, 0), none), ((0, 0, 3, 1), none), ((0, 500, 512, 4), none), ((2, 806, 806, 1), none), ((0, (-1), 2, 1), none)], [(0, 0), (1, 1)], [6, 4, 5], [], [], [], [], [], some []))
def kh_stormsGo_b64_0 : sg_T := (2, 0, ([((2, 805, 805, 0), none), ((0, 0, 3, 1), none), ((0, (-1), 2, 1), none), ((0, 500, 512, 4), none), ((2, 806, 806, 1), none), ((0, 1, 4, 1), some (1, 1))], [(1, 5), (0, 0)], [], [(4, 3, 2)], [], [], [], [], some [(4, 3, 2)]))
def kh_stormsGo_I (l : Launch) (D : va_G) (tc : Nat → ClassId) (ad : Nat → Nat) (kd : Nat → Nat × Nat) (N : Nat) (sm : Nat → Nat) (xs : List av_X) (S : fw_S) (p : Program) (e : Env) (s : State) (m : MethodId) (args : Array Value) (below : List Frame) (meth : Method) (c : Code) (sz : Nat) (k : Nat) : Prop := (∀ (α : List av_X) (lv : List (Nat × Value)) (st : List Value) (S1 : fw_S), as_in ad sm wd_fl2 xs S kh_stormsGo.2.2.2.2.2.1 α kh_stormsGo_a2.2.2.1 lv st S1 → ((∀ k : Nat, k < 4 → (k : Int) < nv α 1 → mM S S1 k) ∧ (∀ k : Nat, k < 4 → nv α 1 ≤ (k : Int) → mK S S1 k)) → (4 - nv α 1).toNat * 10 + 9 < k → hd_WR R_stormsGo wd_fl2 kh_stormsGo kh_stormsGo_y l D tc ad kd N sm xs S p e s m args below meth c sz 2 lv st S1 0) ∧ (∀ (α : List av_X) (lv : List (Nat × Value)) (st : List Value) (S1 : fw_S), as_in ad sm wd_fl2 xs S kh_stormsGo.2.2.2.2.2.1 α kh_stormsGo_a9.2.2.1 lv st S1 → ((∀ k : Nat, k < 4 → (k : Int) < nv α 1 → mM S S1 k) ∧ (∀ k : Nat, k < 4 → nv α 1 ≤ (k : Int) → mK S S1 k) ∧ nv α 2 = nv α 1) → (4 - nv α 1).toNat * 10 + 8 < k → hd_WR R_stormsGo wd_fl2 kh_stormsGo kh_stormsGo_y l D tc ad kd N sm xs S p e s m args below meth c sz 9 lv st S1 0) ∧ (∀ (α : List av_X) (lv : List (Nat × Value)) (st : List Value) (S1 : fw_S), as_in ad sm wd_fl2 xs S kh_stormsGo.2.2.2.2.2.1 α kh_stormsGo_a12.2.2.1 lv st S1 → ((∀ k : Nat, k < 4 → (k : Int) < nv α 1 → mM S S1 k) ∧ (∀ k : Nat, k < 4 → nv α 1 ≤ (k : Int) → mK S S1 k) ∧ nv α 2 = b2i (¬ mrw S (nv α 1).toNat = -1)) → (4 - nv α 1).toNat * 10 + 7 < k → hd_WR R_stormsGo wd_fl2 kh_stormsGo kh_stormsGo_y l D tc ad kd N sm xs S p e s m args below meth c sz 12 lv st S1 0) ∧ (∀ (α : List av_X) (lv : List (Nat × Value)) (st : List Value) (S1 : fw_S), as_in ad sm wd_fl2 xs S kh_stormsGo.2.2.2.2.2.1 α kh_stormsGo_a33.2.2.1 lv st S1 → ((∀ k : Nat, k < 4 → (k : Int) < nv α 1 → mM S S1 k) ∧ (∀ k : Nat, k < 4 → nv α 1 < (k : Int) → mK S S1 k) ∧ mrw S1 (nv α 1).toNat = mrw S (nv α 1).toNat ∧ mcl S1 (nv α 1).toNat = wrapI (mcl S (nv α 1).toNat + 1) ∧ mrw S (nv α 1).toNat ≠ -1) → (4 - nv α 1).toNat * 10 + 6 < k → hd_WR R_stormsGo wd_fl2 kh_stormsGo kh_stormsGo_y l D tc ad kd N sm xs S p e s m args below meth c sz 33 lv st S1 0) ∧ (∀ (α : List av_X) (lv : List (Nat × Value)) (st : List Value) (S1 : fw_S), as_in ad sm wd_fl2 xs S kh_stormsGo.2.2.2.2.2.1 α kh_stormsGo_a47.2.2.1 lv st S1 → ((∀ k : Nat, k < 4 → (k : Int) < nv α 1 → mM S S1 k) ∧ (∀ k : Nat, k < 4 → nv α 1 < (k : Int) → mK S S1 k) ∧ mrw S1 (nv α 1).toNat = mrw S (nv α 1).toNat ∧ mcl S1 (nv α 1).toNat = wrapI (mcl S (nv α 1).toNat + 1) ∧ mrw S (nv α 1).toNat ≠ -1 ∧ nv α 2 = 2 ∧ nv α 3 = nv α 1 ∧ nv α 4 = 500 + 4 * nv α 1) → (4 - nv α 1).toNat * 10 + 5 < k → hd_WR R_stormsGo wd_fl2 kh_stormsGo kh_stormsGo_y l D tc ad kd N sm xs S p e s m args below meth c sz 47 lv st S1 0) ∧ (∀ (α : List av_X) (lv : List (Nat × Value)) (st : List Value) (S1 : fw_S), as_in ad sm wd_fl2 xs S kh_stormsGo.2.2.2.2.2.1 α kh_stormsGo_a50.2.2.1 lv st S1 → ((∀ k : Nat, k < 4 → (k : Int) < nv α 1 → mM S S1 k) ∧ (∀ k : Nat, k < 4 → nv α 1 < (k : Int) → mK S S1 k) ∧ mrw S1 (nv α 1).toNat = mrw S (nv α 1).toNat ∧ mcl S1 (nv α 1).toNat = wrapI (mcl S (nv α 1).toNat + 1) ∧ mrw S (nv α 1).toNat ≠ -1 ∧ nv α 2 = mcl S1 (nv α 1).toNat ∧ nv α 3 = 500 + 4 * nv α 1) → (4 - nv α 1).toNat * 10 + 4 < k → hd_WR R_stormsGo wd_fl2 kh_stormsGo kh_stormsGo_y l D tc ad kd N sm xs S p e s m args below meth c sz 50 lv st S1 0) ∧ (∀ (α : List av_X) (lv : List (Nat × Value)) (st : List Value) (S1 : fw_S), as_in ad sm wd_fl2 xs S kh_stormsGo.2.2.2.2.2.1 α kh_stormsGo_a61.2.2.1 lv st S1 → ((∀ k : Nat, k < 4 → (k : Int) < nv α 1 → mM S S1 k) ∧ (∀ k : Nat, k < 4 → nv α 1 < (k : Int) → mK S S1 k) ∧ mrw S1 (nv α 1).toNat = mrw S (nv α 1).toNat ∧ mcl S1 (nv α 1).toNat = wrapI (mcl S (nv α 1).toNat + 1) ∧ mrw S (nv α 1).toNat ≠ -1 ∧ mcl S1 (nv α 1).toNat ≤ 3 ∧ nv α 2 = 0 ∧ nv α 3 = nv α 1 ∧ nv α 4 = 500 + 4 * nv α 1) → (4 - nv α 1).toNat * 10 + 3 < k → hd_WR R_stormsGo wd_fl2 kh_stormsGo kh_stormsGo_y l D tc ad kd N sm xs S p e s m args below meth c sz 61 lv st S1 0) ∧ (∀ (α : List av_X) (lv : List (Nat × Value)) (st : List Value) (S1 : fw_S), as_in ad sm wd_fl2 xs S kh_stormsGo.2.2.2.2.2.1 α kh_stormsGo_a64.2.2.1 lv st S1 → ((∀ k : Nat, k < 4 → (k : Int) < nv α 1 → mM S S1 k) ∧ (∀ k : Nat, k < 4 → nv α 1 < (k : Int) → mK S S1 k) ∧ mrw S1 (nv α 1).toNat = mrw S (nv α 1).toNat ∧ mcl S1 (nv α 1).toNat = wrapI (mcl S (nv α 1).toNat + 1) ∧ mrw S (nv α 1).toNat ≠ -1 ∧ nv α 2 = stR (mrw S (nv α 1).toNat) (mcl S (nv α 1).toNat) ∧ nv α 3 = 500 + 4 * nv α 1) → (4 - nv α 1).toNat * 10 + 2 < k → hd_WR R_stormsGo wd_fl2 kh_stormsGo kh_stormsGo_y l D tc ad kd N sm xs S p e s m args below meth c sz 64 lv st S1 0) ∧ True
set_option maxHeartbeats 16000000 in
set_option maxRecDepth 8000 in
theorem kh_stormsGo_h2 {l : Launch} {D : va_G} {tc : Nat → ClassId} {ad : Nat → Nat} {kd : Nat → Nat × Nat} {N : Nat} {sm : Nat → Nat} {xs : List av_X} {S : fw_S} {p : Program} {e : Env} {s : State} {m : MethodId} {args : Array Value} {below : List Frame} {meth : Method} {c : Code} {sz : Nat} {lvE : List (Nat × Value)} (G : hd_C wd_ff2 wd_fl2 kh_stormsGo [kh_mIsStorm, kh_stormCell, kh_stormRow] kh_stormsGo_y l D tc ad kd N sm xs p s m args meth c sz) (H0 : as_in ad sm wd_fl2 xs S kh_stormsGo.2.2.2.2.2.1 xs (hd_0 kh_stormsGo) lvE [] S) {k : Nat} (ih : kh_stormsGo_I l D tc ad kd N sm xs S p e s m args below meth c sz k) : (∀ (α : List av_X) (lv : List (Nat × Value)) (st : List Value) (S1 : fw_S), as_in ad sm wd_fl2 xs S kh_stormsGo.2.2.2.2.2.1 α kh_stormsGo_a2.2.2.1 lv st S1 → ((∀ k : Nat, k < 4 → (k : Int) < nv α 1 → mM S S1 k) ∧ (∀ k : Nat, k < 4 → nv α 1 ≤ (k : Int) → mK S S1 k)) → (4 - nv α 1).toNat * 10 + 9 < k + 1 → hd_WR R_stormsGo wd_fl2 kh_stormsGo kh_stormsGo_y l D tc ad kd N sm xs S p e s m args below meth c sz 2 lv st S1 0) := by
  have hx : xs.length = 1 := by rw [H0.2.1.1]; rfl
  intro α lv st S1 H hp hk
  obtain ⟨α1, hle, Hr⟩ := as_recM (pl := []) [] (by decide +kernel) H
  have hf := H.2.2.2.2.2.2.2.2.2.2.1
  have hl1 : α1.length = 2 := by rw [Hr.2.1.1]; rfl
  have hl0 : α.length = 2 := by rw [H.2.1.1]; rfl
  have hxa : al_le xs α1 := H.1.trans hle
  obtain ⟨g1, -, g3, g4, -⟩ := as_fx Hr
  have g0 : (805 ≤ nv α1 0 ∧ nv α1 0 ≤ 805) ∧ (0 ≤ nv α1 1 ∧ nv α1 1 ≤ 4) ∧ True := by
    refine ⟨by have h := (en_nv (i := 0) Hr.2.1 rfl).2; exact h, by have h := (en_nv (i := 1) Hr.2.1 rfl).2; exact h, trivial⟩
  have r0 : nv α1 0 = nv α 0 := nv_le hle (by omega)
  have r1 : nv α1 1 = nv α 1 := nv_le hle (by omega)
  refine hd_segMR G (na := 2) (fuel := 600) (first := true) (Bs := [kh_stormsGo_b2_0, kh_stormsGo_b2_1]) (by decide +kernel) hl1 Hr ?_
  intro q hq β lv' st' S' H1
  simp only [List.mem_cons, List.not_mem_nil, or_false] at hq
  rcases hq with rfl | rfl
  · obtain ⟨f1, f2, f3, f4, f5⟩ := as_fx H1
    simp only [kh_stormsGo_b2_0, Nat.reduceEqDiff, if_false, fx_env, fx_c, fx_ne, fx_hf, wl_S, Nat.zero_add, Nat.reduceAdd, Nat.reduceDiv, Nat.reduceMod, List.getElem?_cons_zero, List.getElem?_cons_succ, if_true, and_true, true_and] at f1 f2 f3 f4 f5
    have fe0 : nv β 0 = 805 := by omega
    have fe1 : nv β 1 = 4 := by omega
    have fe2 : nv β 2 = 4 := by omega
    try simp only [fe0, fe1, fe2, Int.reduceToNat] at f2 f3 f4 f5
    have s0 : nv β 0 = nv α1 0 := nv_le H1.1 (by omega)
    have s1 : nv β 1 = nv α1 1 := nv_le H1.1 (by omega)
    have c0 := f2
    obtain ⟨p1, p2⟩ := hp
    exact hd_retVR G (by decide +kernel) (as_backM H1 (by decide +kernel) hxa hf) (by decide +kernel) (by decide) (fun k hk => by rw [show S' = S1 from f5]; exact p1 k hk (by omega))
  · obtain ⟨f1, f2, f3, f4, f5⟩ := as_fx H1
    simp only [kh_stormsGo_b2_1, Nat.reduceEqDiff, if_false, fx_env, fx_c, fx_ne, fx_hf, wl_S, Nat.zero_add, Nat.reduceAdd, Nat.reduceDiv, Nat.reduceMod, List.getElem?_cons_zero, List.getElem?_cons_succ, if_true, and_true, true_and] at f1 f2 f3 f4 f5
    have fe0 : nv β 0 = 805 := by omega
    have fe2 : nv β 2 = 4 := by omega
    try simp only [fe0, fe2, Int.reduceToNat] at f2 f3 f4 f5
    have s0 : nv β 0 = nv α1 0 := nv_le H1.1 (by omega)
    have s1 : nv β 1 = nv α1 1 := nv_le H1.1 (by omega)
    have c0 := f2
    obtain ⟨α', Ha, hm⟩ := hd_gpM (q := kh_stormsGo_a9) (n := 0) (by decide +kernel) hx H1 (by decide +kernel) hxa hf
    have hfr := H1.2.2.2.2.2.2.2.2.2.2.1
    have m0 : nv α' 0 = nv β 0 := hm 0 0 rfl
    have m1 : nv α' 1 = nv β 1 := hm 1 1 rfl
    have m2 : nv α' 2 = nv β 1 := hm 2 1 rfl
    have e5 : S' = S1 := f5
    obtain ⟨p1, p2⟩ := hp
    refine ih.2.1 _ _ _ _ Ha ?_ ?_
    · rw [e5, m1, m2]
      exact ⟨fun k hk h => p1 k hk (by omega), fun k hk h => p2 k hk (by omega), by omega⟩
    · omega
set_option maxHeartbeats 16000000 in
set_option maxRecDepth 8000 in
theorem kh_stormsGo_h9 {l : Launch} {D : va_G} {tc : Nat → ClassId} {ad : Nat → Nat} {kd : Nat → Nat × Nat} {N : Nat} {sm : Nat → Nat} {xs : List av_X} {S : fw_S} {p : Program} {e : Env} {s : State} {m : MethodId} {args : Array Value} {below : List Frame} {meth : Method} {c : Code} {sz : Nat} {lvE : List (Nat × Value)} (G : hd_C wd_ff2 wd_fl2 kh_stormsGo [kh_mIsStorm, kh_stormCell, kh_stormRow] kh_stormsGo_y l D tc ad kd N sm xs p s m args meth c sz) (H0 : as_in ad sm wd_fl2 xs S kh_stormsGo.2.2.2.2.2.1 xs (hd_0 kh_stormsGo) lvE [] S) {k : Nat} (ih : kh_stormsGo_I l D tc ad kd N sm xs S p e s m args below meth c sz k) : (∀ (α : List av_X) (lv : List (Nat × Value)) (st : List Value) (S1 : fw_S), as_in ad sm wd_fl2 xs S kh_stormsGo.2.2.2.2.2.1 α kh_stormsGo_a9.2.2.1 lv st S1 → ((∀ k : Nat, k < 4 → (k : Int) < nv α 1 → mM S S1 k) ∧ (∀ k : Nat, k < 4 → nv α 1 ≤ (k : Int) → mK S S1 k) ∧ nv α 2 = nv α 1) → (4 - nv α 1).toNat * 10 + 8 < k + 1 → hd_WR R_stormsGo wd_fl2 kh_stormsGo kh_stormsGo_y l D tc ad kd N sm xs S p e s m args below meth c sz 9 lv st S1 0) := by
  have hx : xs.length = 1 := by rw [H0.2.1.1]; rfl
  intro α lv st S1 H hp hk
  obtain ⟨α1, hle, Hr⟩ := as_recM (pl := []) [] (by decide +kernel) H
  have hf := H.2.2.2.2.2.2.2.2.2.2.1
  have hl1 : α1.length = 3 := by rw [Hr.2.1.1]; rfl
  have hl0 : α.length = 3 := by rw [H.2.1.1]; rfl
  have hxa : al_le xs α1 := H.1.trans hle
  obtain ⟨g1, -, g3, g4, -⟩ := as_fx Hr
  have g0 : (805 ≤ nv α1 0 ∧ nv α1 0 ≤ 805) ∧ (0 ≤ nv α1 1 ∧ nv α1 1 ≤ 3) ∧ (0 ≤ nv α1 2 ∧ nv α1 2 ≤ 3) ∧ True := by
    refine ⟨by have h := (en_nv (i := 0) Hr.2.1 rfl).2; exact h, by have h := (en_nv (i := 1) Hr.2.1 rfl).2; exact h, by have h := (en_nv (i := 2) Hr.2.1 rfl).2; exact h, trivial⟩
  have r0 : nv α1 0 = nv α 0 := nv_le hle (by omega)
  have r1 : nv α1 1 = nv α 1 := nv_le hle (by omega)
  have r2 : nv α1 2 = nv α 2 := nv_le hle (by omega)
  refine hd_callRR (Rr := R_mIsStorm) (Rs := [kh_mIsStorm]) (idx := 926) G (List.forall_mem_cons.mpr ⟨kh_mIsStorm_okR, List.forall_mem_nil _⟩) (na := 3) (Bs := [kh_stormsGo_b9_0]) (by decide +kernel) (by decide +kernel) hl1 Hr ?_
  intro q hq β lv' st' S' H1 hRx
  simp only [List.mem_cons, List.not_mem_nil, or_false] at hq
  rcases hq with rfl
  · obtain ⟨f1, f2, f3, f4, f5⟩ := as_fx H1
    simp only [kh_stormsGo_b9_0, Nat.reduceEqDiff, if_false, fx_env, fx_c, fx_ne, fx_hf, wl_S, Nat.zero_add, Nat.reduceAdd, Nat.reduceDiv, Nat.reduceMod, List.getElem?_cons_zero, List.getElem?_cons_succ, if_true, and_true, true_and] at f1 f2 f3 f4 f5
    have fe0 : nv β 0 = 805 := by omega
    try simp only [fe0, Int.reduceToNat] at f2 f3 f4 f5
    have s0 : nv β 0 = nv α1 0 := nv_le H1.1 (by omega)
    have s1 : nv β 1 = nv α1 1 := nv_le H1.1 (by omega)
    have s2 : nv β 2 = nv α1 2 := nv_le H1.1 (by omega)
    obtain ⟨α', Ha, hm⟩ := hd_gpM (q := kh_stormsGo_a12) (n := 0) (by decide +kernel) hx H1 (by decide +kernel) hxa hf
    have hfr := H1.2.2.2.2.2.2.2.2.2.2.1
    have m0 : nv α' 0 = nv β 0 := hm 0 0 rfl
    have m1 : nv α' 1 = nv β 1 := hm 1 1 rfl
    have m2 : nv α' 2 = nv β 3 := hm 2 3 rfl
    obtain ⟨Cc, hCc, ys, rr, hnm, hR, rest, hre⟩ := hRx
    rcases List.mem_singleton.mp hCc with rfl
    have y1 : nv ys 1 = nv α1 2 := nm_nv hnm (i := 1) (v := 2) rfl
    have e5 : S' = S1 := f5
    obtain ⟨v, v1, v2⟩ := hR
    have hv := hd_rv H1 (i := 3) rfl rfl rfl hre (Sum.inl.inj v1)
    obtain ⟨p1, p2, p3⟩ := hp
    rw [hv, y1, r2, p3, (p2 (nv α 1).toNat (by omega) (by omega)).1] at v2
    refine ih.2.2.1 _ _ _ _ Ha ?_ ?_
    · rw [e5, m1, m2, s1, r1]
      exact ⟨p1, p2, v2⟩
    · omega
set_option maxHeartbeats 16000000 in
set_option maxRecDepth 8000 in
theorem kh_stormsGo_h12 {l : Launch} {D : va_G} {tc : Nat → ClassId} {ad : Nat → Nat} {kd : Nat → Nat × Nat} {N : Nat} {sm : Nat → Nat} {xs : List av_X} {S : fw_S} {p : Program} {e : Env} {s : State} {m : MethodId} {args : Array Value} {below : List Frame} {meth : Method} {c : Code} {sz : Nat} {lvE : List (Nat × Value)} (G : hd_C wd_ff2 wd_fl2 kh_stormsGo [kh_mIsStorm, kh_stormCell, kh_stormRow] kh_stormsGo_y l D tc ad kd N sm xs p s m args meth c sz) (H0 : as_in ad sm wd_fl2 xs S kh_stormsGo.2.2.2.2.2.1 xs (hd_0 kh_stormsGo) lvE [] S) {k : Nat} (ih : kh_stormsGo_I l D tc ad kd N sm xs S p e s m args below meth c sz k) : (∀ (α : List av_X) (lv : List (Nat × Value)) (st : List Value) (S1 : fw_S), as_in ad sm wd_fl2 xs S kh_stormsGo.2.2.2.2.2.1 α kh_stormsGo_a12.2.2.1 lv st S1 → ((∀ k : Nat, k < 4 → (k : Int) < nv α 1 → mM S S1 k) ∧ (∀ k : Nat, k < 4 → nv α 1 ≤ (k : Int) → mK S S1 k) ∧ nv α 2 = b2i (¬ mrw S (nv α 1).toNat = -1)) → (4 - nv α 1).toNat * 10 + 7 < k + 1 → hd_WR R_stormsGo wd_fl2 kh_stormsGo kh_stormsGo_y l D tc ad kd N sm xs S p e s m args below meth c sz 12 lv st S1 0) := by
  have hx : xs.length = 1 := by rw [H0.2.1.1]; rfl
  intro α lv st S1 H hp hk
  obtain ⟨α1, hle, Hr⟩ := as_recM (pl := []) [((806, 806), (502, 514, 4))] (by decide +kernel) H
  have hf := H.2.2.2.2.2.2.2.2.2.2.1
  have hl1 : α1.length = 3 := by rw [Hr.2.1.1]; rfl
  have hl0 : α.length = 3 := by rw [H.2.1.1]; rfl
  have hxa : al_le xs α1 := H.1.trans hle
  obtain ⟨g1, -, g3, g4, -⟩ := as_fx Hr
  have g0 : (805 ≤ nv α1 0 ∧ nv α1 0 ≤ 805) ∧ (0 ≤ nv α1 1 ∧ nv α1 1 ≤ 3) ∧ (0 ≤ nv α1 2 ∧ nv α1 2 ≤ 1) ∧ True := by
    refine ⟨by have h := (en_nv (i := 0) Hr.2.1 rfl).2; exact h, by have h := (en_nv (i := 1) Hr.2.1 rfl).2; exact h, by have h := (en_nv (i := 2) Hr.2.1 rfl).2; exact h, trivial⟩
  have r0 : nv α1 0 = nv α 0 := nv_le hle (by omega)
  have r1 : nv α1 1 = nv α 1 := nv_le hle (by omega)
  have r2 : nv α1 2 = nv α 2 := nv_le hle (by omega)
  refine hd_segMR G (na := 3) (fuel := 600) (first := true) (Bs := [kh_stormsGo_b12_0, kh_stormsGo_b12_1]) (by decide +kernel) hl1 Hr ?_
  intro q hq β lv' st' S' H1
  simp only [List.mem_cons, List.not_mem_nil, or_false] at hq
  rcases hq with rfl | rfl
  · obtain ⟨f1, f2, f3, f4, f5⟩ := as_fx H1
    simp only [kh_stormsGo_b12_0, Nat.reduceEqDiff, if_false, fx_env, fx_c, fx_ne, fx_hf, wl_S, Nat.zero_add, Nat.reduceAdd, Nat.reduceDiv, Nat.reduceMod, List.getElem?_cons_zero, List.getElem?_cons_succ, if_true, and_true, true_and] at f1 f2 f3 f4 f5
    have fe0 : nv β 0 = 805 := by omega
    have fe2 : nv β 2 = 0 := by omega
    try simp only [fe0, fe2, Int.reduceToNat] at f2 f3 f4 f5
    have s0 : nv β 0 = nv α1 0 := nv_le H1.1 (by omega)
    have s1 : nv β 1 = nv α1 1 := nv_le H1.1 (by omega)
    have s2 : nv β 2 = nv α1 2 := nv_le H1.1 (by omega)
    obtain ⟨α', Ha, hm⟩ := hd_gpM (q := kh_stormsGo_a2) (n := 0) (by decide +kernel) hx H1 (by decide +kernel) hxa hf
    have hfr := H1.2.2.2.2.2.2.2.2.2.2.1
    have m0 : nv α' 0 = nv β 0 := hm 0 0 rfl
    have m1 : nv α' 1 = nv β 3 := hm 1 3 rfl
    have e5 : S' = S1 := f5
    obtain ⟨p1, p2, p3⟩ := hp
    unfold b2i at p3
    have g : mrw S (nv α 1).toNat = -1 := by
      by_cases g : mrw S (nv α 1).toNat = -1
      · exact g
      · rw [if_pos g] at p3; exfalso; omega
    refine ih.1 _ _ _ _ Ha ?_ ?_
    · rw [e5, m1]
      refine ⟨fun k hk h => ?_, fun k hk h => p2 k hk (by omega)⟩
      by_cases e : (k : Int) = nv α 1
      · obtain ⟨q1, q2⟩ := p2 k hk (by omega)
        rw [show k = (nv α 1).toNat by omega] at q1 q2 ⊢
        refine ⟨?_, ?_⟩
        · rw [q1, g]; unfold stR; rw [if_pos rfl]
        · rw [q2, g]; unfold stC; rw [if_pos rfl]
      · exact p1 k hk (by omega)
    · omega
  · obtain ⟨f1, f2, f3, f4, f5⟩ := as_fx H1
    simp only [kh_stormsGo_b12_1, Nat.reduceEqDiff, if_false, fx_env, fx_c, fx_ne, fx_hf, wl_S, Nat.zero_add, Nat.reduceAdd, Nat.reduceDiv, Nat.reduceMod, List.getElem?_cons_zero, List.getElem?_cons_succ, if_true, and_true, true_and] at f1 f2 f3 f4 f5
    have fe0 : nv β 0 = 805 := by omega
    have fe2 : nv β 2 = 1 := by omega
    have fe3 : nv β 3 = 806 := by omega
    have fe4 : nv β 4 = 500 := by omega
    have fe5 : nv β 5 = 4 := by omega
    have fe8 : nv β 8 = 2 := by omega
    have fe11 : nv β 11 = 1 := by omega
    try simp only [fe0, fe2, fe3, fe4, fe5, fe8, fe11, Int.reduceToNat] at f2 f3 f4 f5
    have s0 : nv β 0 = nv α1 0 := nv_le H1.1 (by omega)
    have s1 : nv β 1 = nv α1 1 := nv_le H1.1 (by omega)
    have s2 : nv β 2 = nv α1 2 := nv_le H1.1 (by omega)
    obtain ⟨c0, c1, c2, c3, c4⟩ := f2
    obtain ⟨α', Ha, hm⟩ := hd_gpM (q := kh_stormsGo_a33) (n := 0) (by decide +kernel) hx H1 (by decide +kernel) hxa hf
    have hfr := H1.2.2.2.2.2.2.2.2.2.2.1
    have m0 : nv α' 0 = nv β 0 := hm 0 0 rfl
    have m1 : nv α' 1 = nv β 1 := hm 1 1 rfl
    have o1 := old_0 c1 rfl
    have wA : ∀ a b : Nat, S'.1 a b = (if a = 806 ∧ b = (nv β 9).toNat then Int32.ofInt (nv β 12) else (S1.1 a b)) := fun a b => by rw [f5]; rfl
    obtain ⟨p1, p2, p3⟩ := hp
    unfold b2i at p3
    have g : ¬ mrw S (nv α 1).toNat = -1 := fun g => by rw [if_neg (fun w => w g)] at p3; omega
    obtain ⟨q1, q2⟩ := p2 (nv α 1).toNat (by omega) (by omega)
    have u : mcl S (nv α 1).toNat = nv β 10 := by
      rw [← q2]
      show (S1.1 806 (502 + 4 * (nv α 1).toNat)).toInt = _
      rw [show 502 + 4 * (nv α 1).toNat = (nv β 9).toNat by omega]
      exact o1
    have hw : nv β 12 = wrapI (nv β 10 + 1) := wrap_of (by omega) (by omega) (by omega)
    refine ih.2.2.2.1 _ _ _ _ Ha ?_ ?_
    · rw [m1, s1, r1]
      refine ⟨fun k hk h => ?_, fun k hk h => ?_, ?_, ?_, g⟩
      · have w := p1 k hk (by omega)
        unfold mM mrw mcl at w ⊢
        rw [wA, if_neg (by omega), wA, if_neg (by omega)]
        exact w
      · have w := p2 k hk (by omega)
        unfold mK mrw mcl at w ⊢
        rw [wA, if_neg (by omega), wA, if_neg (by omega)]
        exact w
      · rw [← q1]
        unfold mrw
        rw [wA, if_neg (by omega)]
      · rw [u, ← hw]
        unfold mcl
        rw [wA, if_pos ⟨rfl, by omega⟩, i32_of (by omega) (by omega)]
    · omega
set_option maxHeartbeats 16000000 in
set_option maxRecDepth 8000 in
theorem kh_stormsGo_h33 {l : Launch} {D : va_G} {tc : Nat → ClassId} {ad : Nat → Nat} {kd : Nat → Nat × Nat} {N : Nat} {sm : Nat → Nat} {xs : List av_X} {S : fw_S} {p : Program} {e : Env} {s : State} {m : MethodId} {args : Array Value} {below : List Frame} {meth : Method} {c : Code} {sz : Nat} {lvE : List (Nat × Value)} (G : hd_C wd_ff2 wd_fl2 kh_stormsGo [kh_mIsStorm, kh_stormCell, kh_stormRow] kh_stormsGo_y l D tc ad kd N sm xs p s m args meth c sz) (H0 : as_in ad sm wd_fl2 xs S kh_stormsGo.2.2.2.2.2.1 xs (hd_0 kh_stormsGo) lvE [] S) {k : Nat} (ih : kh_stormsGo_I l D tc ad kd N sm xs S p e s m args below meth c sz k) : (∀ (α : List av_X) (lv : List (Nat × Value)) (st : List Value) (S1 : fw_S), as_in ad sm wd_fl2 xs S kh_stormsGo.2.2.2.2.2.1 α kh_stormsGo_a33.2.2.1 lv st S1 → ((∀ k : Nat, k < 4 → (k : Int) < nv α 1 → mM S S1 k) ∧ (∀ k : Nat, k < 4 → nv α 1 < (k : Int) → mK S S1 k) ∧ mrw S1 (nv α 1).toNat = mrw S (nv α 1).toNat ∧ mcl S1 (nv α 1).toNat = wrapI (mcl S (nv α 1).toNat + 1) ∧ mrw S (nv α 1).toNat ≠ -1) → (4 - nv α 1).toNat * 10 + 6 < k + 1 → hd_WR R_stormsGo wd_fl2 kh_stormsGo kh_stormsGo_y l D tc ad kd N sm xs S p e s m args below meth c sz 33 lv st S1 0) := by
  have hx : xs.length = 1 := by rw [H0.2.1.1]; rfl
  intro α lv st S1 H hp hk
  obtain ⟨α1, hle, Hr⟩ := as_recM (pl := []) [] (by decide +kernel) H
  have hf := H.2.2.2.2.2.2.2.2.2.2.1
  have hl1 : α1.length = 2 := by rw [Hr.2.1.1]; rfl
  have hl0 : α.length = 2 := by rw [H.2.1.1]; rfl
  have hxa : al_le xs α1 := H.1.trans hle
  obtain ⟨g1, -, g3, g4, -⟩ := as_fx Hr
  have g0 : (805 ≤ nv α1 0 ∧ nv α1 0 ≤ 805) ∧ (0 ≤ nv α1 1 ∧ nv α1 1 ≤ 3) ∧ True := by
    refine ⟨by have h := (en_nv (i := 0) Hr.2.1 rfl).2; exact h, by have h := (en_nv (i := 1) Hr.2.1 rfl).2; exact h, trivial⟩
  have r0 : nv α1 0 = nv α 0 := nv_le hle (by omega)
  have r1 : nv α1 1 = nv α 1 := nv_le hle (by omega)
  refine hd_segMR G (na := 2) (fuel := 600) (first := true) (Bs := [kh_stormsGo_b33_0]) (by decide +kernel) hl1 Hr ?_
  intro q hq β lv' st' S' H1
  simp only [List.mem_cons, List.not_mem_nil, or_false] at hq
  rcases hq with rfl
  · obtain ⟨f1, f2, f3, f4, f5⟩ := as_fx H1
    simp only [kh_stormsGo_b33_0, Nat.reduceEqDiff, if_false, fx_env, fx_c, fx_ne, fx_hf, wl_S, Nat.zero_add, Nat.reduceAdd, Nat.reduceDiv, Nat.reduceMod, List.getElem?_cons_zero, List.getElem?_cons_succ, if_true, and_true, true_and] at f1 f2 f3 f4 f5
    have fe0 : nv β 0 = 805 := by omega
    have fe2 : nv β 2 = 806 := by omega
    have fe3 : nv β 3 = 500 := by omega
    have fe4 : nv β 4 = 4 := by omega
    have fe7 : nv β 7 = 2 := by omega
    try simp only [fe0, fe2, fe3, fe4, fe7, Int.reduceToNat] at f2 f3 f4 f5
    have s0 : nv β 0 = nv α1 0 := nv_le H1.1 (by omega)
    have s1 : nv β 1 = nv α1 1 := nv_le H1.1 (by omega)
    obtain ⟨c0, c1⟩ := f2
    obtain ⟨α', Ha, hm⟩ := hd_gpM (q := kh_stormsGo_a47) (n := 0) (by decide +kernel) hx H1 (by decide +kernel) hxa hf
    have hfr := H1.2.2.2.2.2.2.2.2.2.2.1
    have m0 : nv α' 0 = nv β 0 := hm 0 0 rfl
    have m1 : nv α' 1 = nv β 1 := hm 1 1 rfl
    have m2 : nv α' 2 = nv β 7 := hm 2 7 rfl
    have m3 : nv α' 3 = nv β 1 := hm 3 1 rfl
    have m4 : nv α' 4 = nv β 6 := hm 4 6 rfl
    have m5 : nv α' 5 = nv β 2 := hm 5 2 rfl
    have e5 : S' = S1 := f5
    refine ih.2.2.2.2.1 _ _ _ _ Ha ?_ ?_
    · rw [e5, m1, m2, m3, m4, s1, r1]
      exact ⟨hp.1, hp.2.1, hp.2.2.1, hp.2.2.2.1, hp.2.2.2.2, by omega, by omega, by omega⟩
    · omega
set_option maxHeartbeats 16000000 in
set_option maxRecDepth 8000 in
theorem kh_stormsGo_h47 {l : Launch} {D : va_G} {tc : Nat → ClassId} {ad : Nat → Nat} {kd : Nat → Nat × Nat} {N : Nat} {sm : Nat → Nat} {xs : List av_X} {S : fw_S} {p : Program} {e : Env} {s : State} {m : MethodId} {args : Array Value} {below : List Frame} {meth : Method} {c : Code} {sz : Nat} {lvE : List (Nat × Value)} (G : hd_C wd_ff2 wd_fl2 kh_stormsGo [kh_mIsStorm, kh_stormCell, kh_stormRow] kh_stormsGo_y l D tc ad kd N sm xs p s m args meth c sz) (H0 : as_in ad sm wd_fl2 xs S kh_stormsGo.2.2.2.2.2.1 xs (hd_0 kh_stormsGo) lvE [] S) {k : Nat} (ih : kh_stormsGo_I l D tc ad kd N sm xs S p e s m args below meth c sz k) : (∀ (α : List av_X) (lv : List (Nat × Value)) (st : List Value) (S1 : fw_S), as_in ad sm wd_fl2 xs S kh_stormsGo.2.2.2.2.2.1 α kh_stormsGo_a47.2.2.1 lv st S1 → ((∀ k : Nat, k < 4 → (k : Int) < nv α 1 → mM S S1 k) ∧ (∀ k : Nat, k < 4 → nv α 1 < (k : Int) → mK S S1 k) ∧ mrw S1 (nv α 1).toNat = mrw S (nv α 1).toNat ∧ mcl S1 (nv α 1).toNat = wrapI (mcl S (nv α 1).toNat + 1) ∧ mrw S (nv α 1).toNat ≠ -1 ∧ nv α 2 = 2 ∧ nv α 3 = nv α 1 ∧ nv α 4 = 500 + 4 * nv α 1) → (4 - nv α 1).toNat * 10 + 5 < k + 1 → hd_WR R_stormsGo wd_fl2 kh_stormsGo kh_stormsGo_y l D tc ad kd N sm xs S p e s m args below meth c sz 47 lv st S1 0) := by
  have hx : xs.length = 1 := by rw [H0.2.1.1]; rfl
  intro α lv st S1 H hp hk
  obtain ⟨α1, hle, Hr⟩ := as_recM (pl := []) [] (by decide +kernel) H
  have hf := H.2.2.2.2.2.2.2.2.2.2.1
  have hl1 : α1.length = 6 := by rw [Hr.2.1.1]; rfl
  have hl0 : α.length = 6 := by rw [H.2.1.1]; rfl
  have hxa : al_le xs α1 := H.1.trans hle
  obtain ⟨g1, -, g3, g4, -⟩ := as_fx Hr
  have g0 : (805 ≤ nv α1 0 ∧ nv α1 0 ≤ 805) ∧ (0 ≤ nv α1 1 ∧ nv α1 1 ≤ 3) ∧ (2 ≤ nv α1 2 ∧ nv α1 2 ≤ 2) ∧ (0 ≤ nv α1 3 ∧ nv α1 3 ≤ 3) ∧ (500 ≤ nv α1 4 ∧ nv α1 4 ≤ 512) ∧ (806 ≤ nv α1 5 ∧ nv α1 5 ≤ 806) ∧ True := by
    refine ⟨by have h := (en_nv (i := 0) Hr.2.1 rfl).2; exact h, by have h := (en_nv (i := 1) Hr.2.1 rfl).2; exact h, by have h := (en_nv (i := 2) Hr.2.1 rfl).2; exact h, by have h := (en_nv (i := 3) Hr.2.1 rfl).2; exact h, by have h := (en_nv (i := 4) Hr.2.1 rfl).2; exact h, by have h := (en_nv (i := 5) Hr.2.1 rfl).2; exact h, trivial⟩
  have r0 : nv α1 0 = nv α 0 := nv_le hle (by omega)
  have r1 : nv α1 1 = nv α 1 := nv_le hle (by omega)
  have r2 : nv α1 2 = nv α 2 := nv_le hle (by omega)
  have r3 : nv α1 3 = nv α 3 := nv_le hle (by omega)
  have r4 : nv α1 4 = nv α 4 := nv_le hle (by omega)
  have r5 : nv α1 5 = nv α 5 := nv_le hle (by omega)
  refine hd_callRR (Rr := R_stormCell) (Rs := [kh_stormCell]) (idx := 923) G (List.forall_mem_cons.mpr ⟨kh_stormCell_okR, List.forall_mem_nil _⟩) (na := 6) (Bs := [kh_stormsGo_b47_0]) (by decide +kernel) (by decide +kernel) hl1 Hr ?_
  intro q hq β lv' st' S' H1 hRx
  simp only [List.mem_cons, List.not_mem_nil, or_false] at hq
  rcases hq with rfl
  · obtain ⟨f1, f2, f3, f4, f5⟩ := as_fx H1
    simp only [kh_stormsGo_b47_0, Nat.reduceEqDiff, if_false, fx_env, fx_c, fx_ne, fx_hf, wl_S, Nat.zero_add, Nat.reduceAdd, Nat.reduceDiv, Nat.reduceMod, List.getElem?_cons_zero, List.getElem?_cons_succ, if_true, and_true, true_and] at f1 f2 f3 f4 f5
    have fe0 : nv β 0 = 805 := by omega
    have fe2 : nv β 2 = 2 := by omega
    have fe5 : nv β 5 = 806 := by omega
    try simp only [fe0, fe2, fe5, Int.reduceToNat] at f2 f3 f4 f5
    have s0 : nv β 0 = nv α1 0 := nv_le H1.1 (by omega)
    have s1 : nv β 1 = nv α1 1 := nv_le H1.1 (by omega)
    have s2 : nv β 2 = nv α1 2 := nv_le H1.1 (by omega)
    have s3 : nv β 3 = nv α1 3 := nv_le H1.1 (by omega)
    have s4 : nv β 4 = nv α1 4 := nv_le H1.1 (by omega)
    have s5 : nv β 5 = nv α1 5 := nv_le H1.1 (by omega)
    obtain ⟨α', Ha, hm⟩ := hd_gpM (q := kh_stormsGo_a50) (n := 0) (by decide +kernel) hx H1 (by decide +kernel) hxa hf
    have hfr := H1.2.2.2.2.2.2.2.2.2.2.1
    have m0 : nv α' 0 = nv β 0 := hm 0 0 rfl
    have m1 : nv α' 1 = nv β 1 := hm 1 1 rfl
    have m2 : nv α' 2 = nv β 6 := hm 2 6 rfl
    have m3 : nv α' 3 = nv β 4 := hm 3 4 rfl
    have m4 : nv α' 4 = nv β 5 := hm 4 5 rfl
    obtain ⟨Cc, hCc, ys, rr, hnm, hR, rest, hre⟩ := hRx
    rcases List.mem_singleton.mp hCc with rfl
    have y1 : nv ys 1 = nv α1 3 := nm_nv hnm (i := 1) (v := 3) rfl
    have y2 : nv ys 2 = nv α1 2 := nm_nv hnm (i := 2) (v := 2) rfl
    have e5 : S' = S1 := f5
    obtain ⟨v, v1, v2⟩ := hR
    have hv := hd_rv H1 (i := 6) rfl rfl rfl hre (Sum.inl.inj v1)
    obtain ⟨p1, p2, p3, p4, p5, p6, p7, p8⟩ := hp
    rw [hv, y1, y2, r3, r2, p6, p7, show 500 + 4 * (nv α 1).toNat + (2 : Int).toNat = 502 + 4 * (nv α 1).toNat by omega] at v2
    refine ih.2.2.2.2.2.1 _ _ _ _ Ha ?_ ?_
    · rw [e5, m1, m2, m3, s1, r1]
      exact ⟨p1, p2, p3, p4, p5, v2, by omega⟩
    · omega
set_option maxHeartbeats 16000000 in
set_option maxRecDepth 8000 in
theorem kh_stormsGo_h50 {l : Launch} {D : va_G} {tc : Nat → ClassId} {ad : Nat → Nat} {kd : Nat → Nat × Nat} {N : Nat} {sm : Nat → Nat} {xs : List av_X} {S : fw_S} {p : Program} {e : Env} {s : State} {m : MethodId} {args : Array Value} {below : List Frame} {meth : Method} {c : Code} {sz : Nat} {lvE : List (Nat × Value)} (G : hd_C wd_ff2 wd_fl2 kh_stormsGo [kh_mIsStorm, kh_stormCell, kh_stormRow] kh_stormsGo_y l D tc ad kd N sm xs p s m args meth c sz) (H0 : as_in ad sm wd_fl2 xs S kh_stormsGo.2.2.2.2.2.1 xs (hd_0 kh_stormsGo) lvE [] S) {k : Nat} (ih : kh_stormsGo_I l D tc ad kd N sm xs S p e s m args below meth c sz k) : (∀ (α : List av_X) (lv : List (Nat × Value)) (st : List Value) (S1 : fw_S), as_in ad sm wd_fl2 xs S kh_stormsGo.2.2.2.2.2.1 α kh_stormsGo_a50.2.2.1 lv st S1 → ((∀ k : Nat, k < 4 → (k : Int) < nv α 1 → mM S S1 k) ∧ (∀ k : Nat, k < 4 → nv α 1 < (k : Int) → mK S S1 k) ∧ mrw S1 (nv α 1).toNat = mrw S (nv α 1).toNat ∧ mcl S1 (nv α 1).toNat = wrapI (mcl S (nv α 1).toNat + 1) ∧ mrw S (nv α 1).toNat ≠ -1 ∧ nv α 2 = mcl S1 (nv α 1).toNat ∧ nv α 3 = 500 + 4 * nv α 1) → (4 - nv α 1).toNat * 10 + 4 < k + 1 → hd_WR R_stormsGo wd_fl2 kh_stormsGo kh_stormsGo_y l D tc ad kd N sm xs S p e s m args below meth c sz 50 lv st S1 0) := by
  have hx : xs.length = 1 := by rw [H0.2.1.1]; rfl
  intro α lv st S1 H hp hk
  obtain ⟨α1, hle, Hr⟩ := as_recM (pl := []) [] (by decide +kernel) H
  have hf := H.2.2.2.2.2.2.2.2.2.2.1
  have hl1 : α1.length = 5 := by rw [Hr.2.1.1]; rfl
  have hl0 : α.length = 5 := by rw [H.2.1.1]; rfl
  have hxa : al_le xs α1 := H.1.trans hle
  obtain ⟨g1, -, g3, g4, -⟩ := as_fx Hr
  have g0 : (805 ≤ nv α1 0 ∧ nv α1 0 ≤ 805) ∧ (0 ≤ nv α1 1 ∧ nv α1 1 ≤ 3) ∧ ((-2147483648) ≤ nv α1 2 ∧ nv α1 2 ≤ 2147483647) ∧ (500 ≤ nv α1 3 ∧ nv α1 3 ≤ 512) ∧ (806 ≤ nv α1 4 ∧ nv α1 4 ≤ 806) ∧ True := by
    refine ⟨by have h := (en_nv (i := 0) Hr.2.1 rfl).2; exact h, by have h := (en_nv (i := 1) Hr.2.1 rfl).2; exact h, by have h := (en_nv (i := 2) Hr.2.1 rfl).2; exact h, by have h := (en_nv (i := 3) Hr.2.1 rfl).2; exact h, by have h := (en_nv (i := 4) Hr.2.1 rfl).2; exact h, trivial⟩
  have r0 : nv α1 0 = nv α 0 := nv_le hle (by omega)
  have r1 : nv α1 1 = nv α 1 := nv_le hle (by omega)
  have r2 : nv α1 2 = nv α 2 := nv_le hle (by omega)
  have r3 : nv α1 3 = nv α 3 := nv_le hle (by omega)
  have r4 : nv α1 4 = nv α 4 := nv_le hle (by omega)
  refine hd_segMR G (na := 5) (fuel := 600) (first := true) (Bs := [kh_stormsGo_b50_0, kh_stormsGo_b50_1]) (by decide +kernel) hl1 Hr ?_
  intro q hq β lv' st' S' H1
  simp only [List.mem_cons, List.not_mem_nil, or_false] at hq
  rcases hq with rfl | rfl
  · obtain ⟨f1, f2, f3, f4, f5⟩ := as_fx H1
    simp only [kh_stormsGo_b50_0, Nat.reduceEqDiff, if_false, fx_env, fx_c, fx_ne, fx_hf, wl_S, Nat.zero_add, Nat.reduceAdd, Nat.reduceDiv, Nat.reduceMod, List.getElem?_cons_zero, List.getElem?_cons_succ, if_true, and_true, true_and] at f1 f2 f3 f4 f5
    have fe0 : nv β 0 = 805 := by omega
    have fe4 : nv β 4 = 806 := by omega
    have fe5 : nv β 5 = 3 := by omega
    have fe6 : nv β 6 = 0 := by omega
    try simp only [fe0, fe4, fe5, fe6, Int.reduceToNat] at f2 f3 f4 f5
    have s0 : nv β 0 = nv α1 0 := nv_le H1.1 (by omega)
    have s1 : nv β 1 = nv α1 1 := nv_le H1.1 (by omega)
    have s2 : nv β 2 = nv α1 2 := nv_le H1.1 (by omega)
    have s3 : nv β 3 = nv α1 3 := nv_le H1.1 (by omega)
    have s4 : nv β 4 = nv α1 4 := nv_le H1.1 (by omega)
    have c0 := f2
    obtain ⟨α', Ha, hm⟩ := hd_gpM (q := kh_stormsGo_a61) (n := 0) (by decide +kernel) hx H1 (by decide +kernel) hxa hf
    have hfr := H1.2.2.2.2.2.2.2.2.2.2.1
    have m0 : nv α' 0 = nv β 0 := hm 0 0 rfl
    have m1 : nv α' 1 = nv β 1 := hm 1 1 rfl
    have m2 : nv α' 2 = nv β 6 := hm 2 6 rfl
    have m3 : nv α' 3 = nv β 1 := hm 3 1 rfl
    have m4 : nv α' 4 = nv β 3 := hm 4 3 rfl
    have m5 : nv α' 5 = nv β 4 := hm 5 4 rfl
    have e5 : S' = S1 := f5
    obtain ⟨p1, p2, p3, p4, p5, p6, p7⟩ := hp
    refine ih.2.2.2.2.2.2.1 _ _ _ _ Ha ?_ ?_
    · rw [e5, m1, m2, m3, m4, s1, r1]
      exact ⟨p1, p2, p3, p4, p5, by omega, by omega, by omega, by omega⟩
    · omega
  · obtain ⟨f1, f2, f3, f4, f5⟩ := as_fx H1
    simp only [kh_stormsGo_b50_1, Nat.reduceEqDiff, if_false, fx_env, fx_c, fx_ne, fx_hf, wl_S, Nat.zero_add, Nat.reduceAdd, Nat.reduceDiv, Nat.reduceMod, List.getElem?_cons_zero, List.getElem?_cons_succ, if_true, and_true, true_and] at f1 f2 f3 f4 f5
    have fe0 : nv β 0 = 805 := by omega
    have fe4 : nv β 4 = 806 := by omega
    have fe5 : nv β 5 = 3 := by omega
    have fe6 : nv β 6 = (-1) := by omega
    try simp only [fe0, fe4, fe5, fe6, Int.reduceToNat] at f2 f3 f4 f5
    have s0 : nv β 0 = nv α1 0 := nv_le H1.1 (by omega)
    have s1 : nv β 1 = nv α1 1 := nv_le H1.1 (by omega)
    have s2 : nv β 2 = nv α1 2 := nv_le H1.1 (by omega)
    have s3 : nv β 3 = nv α1 3 := nv_le H1.1 (by omega)
    have s4 : nv β 4 = nv α1 4 := nv_le H1.1 (by omega)
    have c0 := f2
    obtain ⟨α', Ha, hm⟩ := hd_gpM (q := kh_stormsGo_a64) (n := 0) (by decide +kernel) hx H1 (by decide +kernel) hxa hf
    have hfr := H1.2.2.2.2.2.2.2.2.2.2.1
    have m0 : nv α' 0 = nv β 0 := hm 0 0 rfl
    have m1 : nv α' 1 = nv β 1 := hm 1 1 rfl
    have m2 : nv α' 2 = nv β 6 := hm 2 6 rfl
    have m3 : nv α' 3 = nv β 3 := hm 3 3 rfl
    have m4 : nv α' 4 = nv β 4 := hm 4 4 rfl
    have e5 : S' = S1 := f5
    obtain ⟨p1, p2, p3, p4, p5, p6, p7⟩ := hp
    refine ih.2.2.2.2.2.2.2.1 _ _ _ _ Ha ?_ ?_
    · rw [e5, m1, m2, m3, s1, r1]
      refine ⟨p1, p2, p3, p4, p5, ?_, by omega⟩
      unfold stR
      rw [if_neg p5, ← p4, if_pos (by omega)]
      omega
    · omega
set_option maxHeartbeats 16000000 in
set_option maxRecDepth 8000 in
theorem kh_stormsGo_h61 {l : Launch} {D : va_G} {tc : Nat → ClassId} {ad : Nat → Nat} {kd : Nat → Nat × Nat} {N : Nat} {sm : Nat → Nat} {xs : List av_X} {S : fw_S} {p : Program} {e : Env} {s : State} {m : MethodId} {args : Array Value} {below : List Frame} {meth : Method} {c : Code} {sz : Nat} {lvE : List (Nat × Value)} (G : hd_C wd_ff2 wd_fl2 kh_stormsGo [kh_mIsStorm, kh_stormCell, kh_stormRow] kh_stormsGo_y l D tc ad kd N sm xs p s m args meth c sz) (H0 : as_in ad sm wd_fl2 xs S kh_stormsGo.2.2.2.2.2.1 xs (hd_0 kh_stormsGo) lvE [] S) {k : Nat} (ih : kh_stormsGo_I l D tc ad kd N sm xs S p e s m args below meth c sz k) : (∀ (α : List av_X) (lv : List (Nat × Value)) (st : List Value) (S1 : fw_S), as_in ad sm wd_fl2 xs S kh_stormsGo.2.2.2.2.2.1 α kh_stormsGo_a61.2.2.1 lv st S1 → ((∀ k : Nat, k < 4 → (k : Int) < nv α 1 → mM S S1 k) ∧ (∀ k : Nat, k < 4 → nv α 1 < (k : Int) → mK S S1 k) ∧ mrw S1 (nv α 1).toNat = mrw S (nv α 1).toNat ∧ mcl S1 (nv α 1).toNat = wrapI (mcl S (nv α 1).toNat + 1) ∧ mrw S (nv α 1).toNat ≠ -1 ∧ mcl S1 (nv α 1).toNat ≤ 3 ∧ nv α 2 = 0 ∧ nv α 3 = nv α 1 ∧ nv α 4 = 500 + 4 * nv α 1) → (4 - nv α 1).toNat * 10 + 3 < k + 1 → hd_WR R_stormsGo wd_fl2 kh_stormsGo kh_stormsGo_y l D tc ad kd N sm xs S p e s m args below meth c sz 61 lv st S1 0) := by
  have hx : xs.length = 1 := by rw [H0.2.1.1]; rfl
  intro α lv st S1 H hp hk
  obtain ⟨α1, hle, Hr⟩ := as_recM (pl := []) [] (by decide +kernel) H
  have hf := H.2.2.2.2.2.2.2.2.2.2.1
  have hl1 : α1.length = 6 := by rw [Hr.2.1.1]; rfl
  have hl0 : α.length = 6 := by rw [H.2.1.1]; rfl
  have hxa : al_le xs α1 := H.1.trans hle
  obtain ⟨g1, -, g3, g4, -⟩ := as_fx Hr
  have g0 : (805 ≤ nv α1 0 ∧ nv α1 0 ≤ 805) ∧ (0 ≤ nv α1 1 ∧ nv α1 1 ≤ 3) ∧ (0 ≤ nv α1 2 ∧ nv α1 2 ≤ 0) ∧ (0 ≤ nv α1 3 ∧ nv α1 3 ≤ 3) ∧ (500 ≤ nv α1 4 ∧ nv α1 4 ≤ 512) ∧ (806 ≤ nv α1 5 ∧ nv α1 5 ≤ 806) ∧ True := by
    refine ⟨by have h := (en_nv (i := 0) Hr.2.1 rfl).2; exact h, by have h := (en_nv (i := 1) Hr.2.1 rfl).2; exact h, by have h := (en_nv (i := 2) Hr.2.1 rfl).2; exact h, by have h := (en_nv (i := 3) Hr.2.1 rfl).2; exact h, by have h := (en_nv (i := 4) Hr.2.1 rfl).2; exact h, by have h := (en_nv (i := 5) Hr.2.1 rfl).2; exact h, trivial⟩
  have r0 : nv α1 0 = nv α 0 := nv_le hle (by omega)
  have r1 : nv α1 1 = nv α 1 := nv_le hle (by omega)
  have r2 : nv α1 2 = nv α 2 := nv_le hle (by omega)
  have r3 : nv α1 3 = nv α 3 := nv_le hle (by omega)
  have r4 : nv α1 4 = nv α 4 := nv_le hle (by omega)
  have r5 : nv α1 5 = nv α 5 := nv_le hle (by omega)
  refine hd_callRR (Rr := R_stormCell) (Rs := [kh_stormRow]) (idx := 923) G (List.forall_mem_cons.mpr ⟨kh_stormRow_okR, List.forall_mem_nil _⟩) (na := 6) (Bs := [kh_stormsGo_b61_0]) (by decide +kernel) (by decide +kernel) hl1 Hr ?_
  intro q hq β lv' st' S' H1 hRx
  simp only [List.mem_cons, List.not_mem_nil, or_false] at hq
  rcases hq with rfl
  · obtain ⟨f1, f2, f3, f4, f5⟩ := as_fx H1
    simp only [kh_stormsGo_b61_0, Nat.reduceEqDiff, if_false, fx_env, fx_c, fx_ne, fx_hf, wl_S, Nat.zero_add, Nat.reduceAdd, Nat.reduceDiv, Nat.reduceMod, List.getElem?_cons_zero, List.getElem?_cons_succ, if_true, and_true, true_and] at f1 f2 f3 f4 f5
    have fe0 : nv β 0 = 805 := by omega
    have fe2 : nv β 2 = 0 := by omega
    have fe5 : nv β 5 = 806 := by omega
    try simp only [fe0, fe2, fe5, Int.reduceToNat] at f2 f3 f4 f5
    have s0 : nv β 0 = nv α1 0 := nv_le H1.1 (by omega)
    have s1 : nv β 1 = nv α1 1 := nv_le H1.1 (by omega)
    have s2 : nv β 2 = nv α1 2 := nv_le H1.1 (by omega)
    have s3 : nv β 3 = nv α1 3 := nv_le H1.1 (by omega)
    have s4 : nv β 4 = nv α1 4 := nv_le H1.1 (by omega)
    have s5 : nv β 5 = nv α1 5 := nv_le H1.1 (by omega)
    obtain ⟨α', Ha, hm⟩ := hd_gpM (q := kh_stormsGo_a64) (n := 0) (by decide +kernel) hx H1 (by decide +kernel) hxa hf
    have hfr := H1.2.2.2.2.2.2.2.2.2.2.1
    have m0 : nv α' 0 = nv β 0 := hm 0 0 rfl
    have m1 : nv α' 1 = nv β 1 := hm 1 1 rfl
    have m2 : nv α' 2 = nv β 6 := hm 2 6 rfl
    have m3 : nv α' 3 = nv β 4 := hm 3 4 rfl
    have m4 : nv α' 4 = nv β 5 := hm 4 5 rfl
    obtain ⟨Cc, hCc, ys, rr, hnm, hR, rest, hre⟩ := hRx
    rcases List.mem_singleton.mp hCc with rfl
    have y1 : nv ys 1 = nv α1 3 := nm_nv hnm (i := 1) (v := 3) rfl
    have y2 : nv ys 2 = nv α1 2 := nm_nv hnm (i := 2) (v := 2) rfl
    have e5 : S' = S1 := f5
    obtain ⟨v, v1, v2⟩ := hR
    have hv := hd_rv H1 (i := 6) rfl rfl rfl hre (Sum.inl.inj v1)
    obtain ⟨p1, p2, p3, p4, p5, p6, p7, p8, p9⟩ := hp
    rw [hv, y1, y2, r3, r2, p7, p8, show 500 + 4 * (nv α 1).toNat + (0 : Int).toNat = 500 + 4 * (nv α 1).toNat by omega] at v2
    have v3 : nv β 6 = mrw S (nv α 1).toNat := v2.trans p3
    refine ih.2.2.2.2.2.2.2.1 _ _ _ _ Ha ?_ ?_
    · rw [e5, m1, m2, m3, s1, r1]
      refine ⟨p1, p2, p3, p4, p5, ?_, by omega⟩
      unfold stR
      rw [if_neg p5, ← p4, if_neg (by omega)]
      exact v3
    · omega
set_option maxHeartbeats 16000000 in
set_option maxRecDepth 8000 in
theorem kh_stormsGo_h64 {l : Launch} {D : va_G} {tc : Nat → ClassId} {ad : Nat → Nat} {kd : Nat → Nat × Nat} {N : Nat} {sm : Nat → Nat} {xs : List av_X} {S : fw_S} {p : Program} {e : Env} {s : State} {m : MethodId} {args : Array Value} {below : List Frame} {meth : Method} {c : Code} {sz : Nat} {lvE : List (Nat × Value)} (G : hd_C wd_ff2 wd_fl2 kh_stormsGo [kh_mIsStorm, kh_stormCell, kh_stormRow] kh_stormsGo_y l D tc ad kd N sm xs p s m args meth c sz) (H0 : as_in ad sm wd_fl2 xs S kh_stormsGo.2.2.2.2.2.1 xs (hd_0 kh_stormsGo) lvE [] S) {k : Nat} (ih : kh_stormsGo_I l D tc ad kd N sm xs S p e s m args below meth c sz k) : (∀ (α : List av_X) (lv : List (Nat × Value)) (st : List Value) (S1 : fw_S), as_in ad sm wd_fl2 xs S kh_stormsGo.2.2.2.2.2.1 α kh_stormsGo_a64.2.2.1 lv st S1 → ((∀ k : Nat, k < 4 → (k : Int) < nv α 1 → mM S S1 k) ∧ (∀ k : Nat, k < 4 → nv α 1 < (k : Int) → mK S S1 k) ∧ mrw S1 (nv α 1).toNat = mrw S (nv α 1).toNat ∧ mcl S1 (nv α 1).toNat = wrapI (mcl S (nv α 1).toNat + 1) ∧ mrw S (nv α 1).toNat ≠ -1 ∧ nv α 2 = stR (mrw S (nv α 1).toNat) (mcl S (nv α 1).toNat) ∧ nv α 3 = 500 + 4 * nv α 1) → (4 - nv α 1).toNat * 10 + 2 < k + 1 → hd_WR R_stormsGo wd_fl2 kh_stormsGo kh_stormsGo_y l D tc ad kd N sm xs S p e s m args below meth c sz 64 lv st S1 0) := by
  have hx : xs.length = 1 := by rw [H0.2.1.1]; rfl
  intro α lv st S1 H hp hk
  obtain ⟨α1, hle, Hr⟩ := as_recM (pl := []) [((806, 806), (500, 512, 4))] (by decide +kernel) H
  have hf := H.2.2.2.2.2.2.2.2.2.2.1
  have hl1 : α1.length = 5 := by rw [Hr.2.1.1]; rfl
  have hl0 : α.length = 5 := by rw [H.2.1.1]; rfl
  have hxa : al_le xs α1 := H.1.trans hle
  obtain ⟨g1, -, g3, g4, -⟩ := as_fx Hr
  have g0 : (805 ≤ nv α1 0 ∧ nv α1 0 ≤ 805) ∧ (0 ≤ nv α1 1 ∧ nv α1 1 ≤ 3) ∧ ((-1) ≤ nv α1 2 ∧ nv α1 2 ≤ 2) ∧ (500 ≤ nv α1 3 ∧ nv α1 3 ≤ 512) ∧ (806 ≤ nv α1 4 ∧ nv α1 4 ≤ 806) ∧ True := by
    refine ⟨by have h := (en_nv (i := 0) Hr.2.1 rfl).2; exact h, by have h := (en_nv (i := 1) Hr.2.1 rfl).2; exact h, by have h := (en_nv (i := 2) Hr.2.1 rfl).2; exact h, by have h := (en_nv (i := 3) Hr.2.1 rfl).2; exact h, by have h := (en_nv (i := 4) Hr.2.1 rfl).2; exact h, trivial⟩
  have r0 : nv α1 0 = nv α 0 := nv_le hle (by omega)
  have r1 : nv α1 1 = nv α 1 := nv_le hle (by omega)
  have r2 : nv α1 2 = nv α 2 := nv_le hle (by omega)
  have r3 : nv α1 3 = nv α 3 := nv_le hle (by omega)
  have r4 : nv α1 4 = nv α 4 := nv_le hle (by omega)
  refine hd_segMR G (na := 5) (fuel := 600) (first := true) (Bs := [kh_stormsGo_b64_0]) (by decide +kernel) hl1 Hr ?_
  intro q hq β lv' st' S' H1
  simp only [List.mem_cons, List.not_mem_nil, or_false] at hq
  rcases hq with rfl
  · obtain ⟨f1, f2, f3, f4, f5⟩ := as_fx H1
    simp only [kh_stormsGo_b64_0, Nat.reduceEqDiff, if_false, fx_env, fx_c, fx_ne, fx_hf, wl_S, Nat.zero_add, Nat.reduceAdd, Nat.reduceDiv, Nat.reduceMod, List.getElem?_cons_zero, List.getElem?_cons_succ, if_true, and_true, true_and] at f1 f2 f3 f4 f5
    have fe0 : nv β 0 = 805 := by omega
    have fe4 : nv β 4 = 806 := by omega
    try simp only [fe0, fe4, Int.reduceToNat] at f2 f3 f4 f5
    have s0 : nv β 0 = nv α1 0 := nv_le H1.1 (by omega)
    have s1 : nv β 1 = nv α1 1 := nv_le H1.1 (by omega)
    have s2 : nv β 2 = nv α1 2 := nv_le H1.1 (by omega)
    have s3 : nv β 3 = nv α1 3 := nv_le H1.1 (by omega)
    have s4 : nv β 4 = nv α1 4 := nv_le H1.1 (by omega)
    obtain ⟨α', Ha, hm⟩ := hd_gpM (q := kh_stormsGo_a2) (n := 0) (by decide +kernel) hx H1 (by decide +kernel) hxa hf
    have hfr := H1.2.2.2.2.2.2.2.2.2.2.1
    have m0 : nv α' 0 = nv β 0 := hm 0 0 rfl
    have m1 : nv α' 1 = nv β 5 := hm 1 5 rfl
    have wA : ∀ a b : Nat, S'.1 a b = (if a = 806 ∧ b = (nv β 3).toNat then Int32.ofInt (nv β 2) else (S1.1 a b)) := fun a b => by rw [f5]; rfl
    obtain ⟨p1, p2, p3, p4, p5, p6, p7⟩ := hp
    refine ih.1 _ _ _ _ Ha ?_ ?_
    · rw [m1]
      refine ⟨fun k hk h => ?_, fun k hk h => ?_⟩
      · by_cases e : (k : Int) = nv α 1
        · rw [show k = (nv α 1).toNat by omega]
          refine ⟨?_, ?_⟩
          · rw [← p6]
            unfold mrw
            rw [wA, if_pos ⟨rfl, by omega⟩, i32_of (by omega) (by omega)]
            omega
          · unfold stC
            rw [if_neg p5, ← p4]
            unfold mcl
            rw [wA, if_neg (by omega)]
        · have w := p1 k hk (by omega)
          unfold mM mrw mcl at w ⊢
          rw [wA, if_neg (by omega), wA, if_neg (by omega)]
          exact w
      · have w := p2 k hk (by omega)
        unfold mK mrw mcl at w ⊢
        rw [wA, if_neg (by omega), wA, if_neg (by omega)]
        exact w
    · omega
set_option maxHeartbeats 16000000 in
set_option maxRecDepth 8000 in
theorem kh_stormsGo_okR : ct_okR wd_fl2 kh_stormsGo R_stormsGo := ct_handR (R := R_stormsGo) (ff := wd_ff2) (y := kh_stormsGo_y) (Cs := [kh_mIsStorm, kh_stormCell, kh_stormRow]) wd_fl2_ok rfl (List.forall_mem_cons.mpr ⟨kh_mIsStorm_ok, (List.forall_mem_cons.mpr ⟨kh_stormCell_ok, (List.forall_mem_cons.mpr ⟨kh_stormRow_ok, (List.forall_mem_nil _)⟩)⟩)⟩) (by decide +kernel) (fun l D tc ad kd N sm xs S p e s m args below meth c sz lv G H0 => by
  have hx : xs.length = 1 := by rw [H0.2.1.1]; rfl
  have hP : ∀ (k : Nat), kh_stormsGo_I l D tc ad kd N sm xs S p e s m args below meth c sz k := by
    intro k
    induction k with
    | zero => exact ⟨fun _ _ _ _ _ _ h => absurd h (Nat.not_lt_zero _), fun _ _ _ _ _ _ h => absurd h (Nat.not_lt_zero _), fun _ _ _ _ _ _ h => absurd h (Nat.not_lt_zero _), fun _ _ _ _ _ _ h => absurd h (Nat.not_lt_zero _), fun _ _ _ _ _ _ h => absurd h (Nat.not_lt_zero _), fun _ _ _ _ _ _ h => absurd h (Nat.not_lt_zero _), fun _ _ _ _ _ _ h => absurd h (Nat.not_lt_zero _), fun _ _ _ _ _ _ h => absurd h (Nat.not_lt_zero _), trivial⟩
    | succ k ih => exact ⟨kh_stormsGo_h2 G H0 ih, kh_stormsGo_h9 G H0 ih, kh_stormsGo_h12 G H0 ih, kh_stormsGo_h33 G H0 ih, kh_stormsGo_h47 G H0 ih, kh_stormsGo_h50 G H0 ih, kh_stormsGo_h61 G H0 ih, kh_stormsGo_h64 G H0 ih, trivial⟩
  obtain ⟨α1, hle, Hr⟩ := as_recM (pl := []) [] (by decide +kernel) H0
  have hf := H0.2.2.2.2.2.2.2.2.2.2.1
  have hl1 : α1.length = 1 := by rw [Hr.2.1.1]; rfl
  have hl0 : xs.length = 1 := by rw [H0.2.1.1]; rfl
  have hxa : al_le xs α1 := H0.1.trans hle
  obtain ⟨g1, -, g3, g4, -⟩ := as_fx Hr
  have g0 : (805 ≤ nv α1 0 ∧ nv α1 0 ≤ 805) ∧ True := by
    refine ⟨by have h := (en_nv (i := 0) Hr.2.1 rfl).2; exact h, trivial⟩
  have r0 : nv α1 0 = nv xs 0 := nv_le hle (by omega)
  refine hd_segMR G (na := 1) (fuel := 600) (first := true) (Bs := [kh_stormsGo_b0_0]) (by decide +kernel) hl1 Hr ?_
  intro q hq β lv' st' S' H1
  simp only [List.mem_cons, List.not_mem_nil, or_false] at hq
  rcases hq with rfl
  · obtain ⟨f1, f2, f3, f4, f5⟩ := as_fx H1
    simp only [kh_stormsGo_b0_0, Nat.reduceEqDiff, if_false, fx_env, fx_c, fx_ne, fx_hf, wl_S, Nat.zero_add, Nat.reduceAdd, Nat.reduceDiv, Nat.reduceMod, List.getElem?_cons_zero, List.getElem?_cons_succ, if_true, and_true, true_and] at f1 f2 f3 f4 f5
    have fe0 : nv β 0 = 805 := by omega
    have fe1 : nv β 1 = 0 := by omega
    try simp only [fe0, fe1, Int.reduceToNat] at f2 f3 f4 f5
    have s0 : nv β 0 = nv α1 0 := nv_le H1.1 (by omega)
    obtain ⟨α', Ha, hm⟩ := hd_gpM (q := kh_stormsGo_a2) (n := 0) (by decide +kernel) hx H1 (by decide +kernel) hxa hf
    have hfr := H1.2.2.2.2.2.2.2.2.2.2.1
    have m0 : nv α' 0 = nv β 0 := hm 0 0 rfl
    have m1 : nv α' 1 = nv β 1 := hm 1 1 rfl

    refine (hP _).1 _ _ _ _ Ha ?_ (Nat.lt_succ_self _)
    · rw [show S' = S from f5, m1]
      exact ⟨fun k hk h => by omega, fun k hk h => ⟨rfl, rfl⟩⟩)
theorem kh_stormsGo_ok : ct_ok wd_fl2 kh_stormsGo := ct_okR_ok kh_stormsGo_okR
