/-! ===== the class: weather, storms, days ===== -/
def wrapI (z : Int) : Int := (Int32.ofInt z).toInt
theorem wrap_of {z m : Int} (h : (z - m) % 4294967296 = 0) (h1 : -2147483648 ≤ z) (h2 : z ≤ 2147483647) : z = wrapI m := by
  unfold wrapI
  rw [Int32.toInt_ofInt]
  show z = m.bmod 4294967296
  rw [Int.bmod_def]
  split <;> omega
abbrev Sk : Type := Int × Int × Int × (Nat → Int) × (Nat → Int)
def stR (r c : Int) : Int := if r = -1 then -1 else if 4 ≤ wrapI (c + 1) then -1 else r
def stC (r c : Int) : Int := if r = -1 then c else wrapI (c + 1)
def skC (S : fw_S) : Sk := ((S.1 794 0).toInt, (S.1 794 3).toInt, (S.1 794 4).toInt, fun k => if k < 4 then (S.1 (796 + k) 0).toInt else 0, fun k => if k < 4 then (S.1 (796 + k) 2).toInt else 0)
def skN (a : Sk) : Sk := (if a.2.1 = 1 then nxtS a.2.2.1 % 31 - 10 else a.1, a.2.1, if a.2.1 = 1 then nxtS a.2.2.1 else a.2.2.1, fun k => if k < 4 then stR (a.2.2.2.1 k) (a.2.2.2.2 k) else 0, fun k => if k < 4 then stC (a.2.2.2.1 k) (a.2.2.2.2 k) else 0)
def skI : Nat → Sk → Sk
  | 0, a => a
  | n + 1, a => skN (skI n a)
/-- the sky's numbers of the class stand -/
theorem skC_eq {S S' : fw_S} (h0 : S'.1 794 0 = S.1 794 0) (h3 : S'.1 794 3 = S.1 794 3) (h4 : S'.1 794 4 = S.1 794 4) (hr : ∀ k : Nat, k < 4 → S'.1 (796 + k) 0 = S.1 (796 + k) 0 ∧ S'.1 (796 + k) 2 = S.1 (796 + k) 2) : skC S' = skC S := by
  have e1 : (fun k => if k < 4 then (S'.1 (796 + k) 0).toInt else 0) = fun k => if k < 4 then (S.1 (796 + k) 0).toInt else (0 : Int) := funext fun k => by
    by_cases hk : k < 4
    · rw [if_pos hk, if_pos hk, (hr k hk).1]
    · rw [if_neg hk, if_neg hk]
  have e2 : (fun k => if k < 4 then (S'.1 (796 + k) 2).toInt else 0) = fun k => if k < 4 then (S.1 (796 + k) 2).toInt else (0 : Int) := funext fun k => by
    by_cases hk : k < 4
    · rw [if_pos hk, if_pos hk, (hr k hk).2]
    · rw [if_neg hk, if_neg hk]
  unfold skC
  rw [h0, h3, h4, e1, e2]
def stM (S S1 : fw_S) (k : Nat) : Prop := (S1.1 (796 + k) 0).toInt = stR (S.1 (796 + k) 0).toInt (S.1 (796 + k) 2).toInt ∧ (S1.1 (796 + k) 2).toInt = stC (S.1 (796 + k) 0).toInt (S.1 (796 + k) 2).toInt
def stK (S S1 : fw_S) (k : Nat) : Prop := S1.1 (796 + k) 0 = S.1 (796 + k) 0 ∧ S1.1 (796 + k) 2 = S.1 (796 + k) 2
def skT (S S1 : fw_S) : Prop := (S1.1 794 0).toInt = (skN (skC S)).1 ∧ (S1.1 794 3).toInt = (skN (skC S)).2.1 ∧ (S1.1 794 4).toInt = (skN (skC S)).2.2.1
theorem skT_in {S S1 : fw_S} (h : skT S S1) (hm : ∀ k : Nat, k < 4 → stM S S1 k) : skC S1 = skN (skC S) := by
  obtain ⟨h1, h2, h3⟩ := h
  have e1 : (fun k => if k < 4 then (S1.1 (796 + k) 0).toInt else 0) = (skN (skC S)).2.2.2.1 := funext fun k => by
    show _ = if k < 4 then stR (if k < 4 then (S.1 (796 + k) 0).toInt else 0) (if k < 4 then (S.1 (796 + k) 2).toInt else 0) else 0
    by_cases hk : k < 4
    · simp only [if_pos hk]; exact (hm k hk).1
    · simp only [if_neg hk]
  have e2 : (fun k => if k < 4 then (S1.1 (796 + k) 2).toInt else 0) = (skN (skC S)).2.2.2.2 := funext fun k => by
    show _ = if k < 4 then stC (if k < 4 then (S.1 (796 + k) 0).toInt else 0) (if k < 4 then (S.1 (796 + k) 2).toInt else 0) else 0
    by_cases hk : k < 4
    · simp only [if_pos hk]; exact (hm k hk).2
    · simp only [if_neg hk]
  unfold skC at *
  rw [h1, h2, h3, e1, e2]
def R_move : List av_X → fw_S → fw_O → fw_S → Prop := fun _ S _ S' => ∀ k : Nat, k < 4 → stM S S' k
def R_skyDay : List av_X → fw_S → fw_O → fw_S → Prop := fun _ S _ S' => skC S' = skN (skC S)
def dayC (S : fw_S) : Int := (S.1 1 0).toInt
def R_pass : List av_X → fw_S → fw_O → fw_S → Prop := fun xs S oc S' => (dayC S + nv xs 1 ≤ 999 ∧ (∃ v : Int32, oc = .inl (some (.int v)) ∧ v.toInt = dayC S + nv xs 1) ∧ dayC S' = dayC S + nv xs 1 ∧ skC S' = skI (nv xs 1).toNat (skC S)) ∨ (999 < dayC S + nv xs 1 ∧ oc = .inr "java/lang/IllegalStateException" ∧ S' = S)
abbrev kh_moveStorms_y : mt_T := (⟨"UtilityWorks$Sky", "moveStorms", "()V"⟩, prog_8_method_15_code, 3, none, 6, 1, 0, 26071, 26070, 1013, 21013)
def kh_moveStorms : ct_T := (117, [(2, 794, 794, 1)], [], [], [(0, (0, 0, 0, 0), [(2, 794, 794, 1)], [], ([], []))], [((796, 799), (0, 0, 0)), ((796, 799), (2, 2, 0))], 0, 0, 0)
def kh_moveStorms_a2 : an_T := (2, 0, ([((2, 794, 794, 1), none), ((0, 0, 4, 1), none)], [(0, 0), (1, 1)], [], [], [], [], [], [], none), [])
def kh_moveStorms_b0_0 : sg_T := (2, 0, ([((2, 794, 794, 1), none), ((0, 0, 0, 0), none)], [(1, 1), (0, 0)], [], [], [], [], [], [], some []))
def kh_moveStorms_b2_0 : sg_T := (45, 0, ([((2, 794, 794, 1), none), ((0, 4, 4, 1), none), ((0, 4, 4, 0), none)], [(0, 0), (1, 1)], [], [], [], [(200000, 2, 1)], [], [], some []))
def kh_moveStorms_b2_1 : sg_T := (2, 0, ([((2, 794, 794, 1), none), ((0, 0, 3, 1), none), ((0, 4, 4, 0), none), ((2, 795, 795, 1), none), ((2, 796, 799, 1), none), ((0, 0, 0, 0), none), ((0, (-1), (-1), 1), none), ((0, (-1), (-1), 0), none), ((0, 1, 4, 1), some (1, 1))], [(1, 8), (2, 4), (0, 0)], [], [(4, 5, 6), (3, 1, 4)], [], [(300000, 6, 7), (800006, 4, 5), (100000, 1, 2)], [], [], some []))
def kh_moveStorms_b2_2 : sg_T := (2, 0, ([((2, 794, 794, 1), none), ((0, 0, 3, 1), none), ((0, 4, 4, 0), none), ((2, 795, 795, 1), none), ((2, 796, 799, 1), none), ((0, 0, 0, 0), none), ((0, 0, 2, 1), none), ((0, (-1), (-1), 0), none), ((0, 2, 2, 0), none), ((0, (-2147483648), 2147483647, 1), none), ((0, 1, 1, 0), none), ((0, (-2147483648), 3, 1), none), ((0, 2, 2, 0), none), ((0, 4, 4, 0), none), ((0, 1, 4, 1), some (1, 1))], [(1, 14), (2, 4), (0, 0)], [], [(4, 8, 11), (4, 5, 6), (3, 1, 4)], [(6, (-1))], [(100000, 11, 13), (900000011, 9, 10), (800009, 4, 8), (400000, 6, 7), (800006, 4, 5), (100000, 1, 2)], [], [], some [(4, 8, 11)]))
def kh_moveStorms_b2_3 : sg_T := (2, 0, ([((2, 794, 794, 1), none), ((0, 0, 3, 1), none), ((0, 4, 4, 0), none), ((2, 795, 795, 1), none), ((2, 796, 799, 1), none), ((0, 0, 0, 0), none), ((0, 0, 2, 1), none), ((0, (-1), (-1), 0), none), ((0, 2, 2, 0), none), ((0, (-2147483648), 2147483647, 1), none), ((0, 1, 1, 0), none), ((0, 4, 2147483647, 1), none), ((0, 2, 2, 0), none), ((0, 4, 4, 0), none), ((0, 0, 0, 0), none), ((0, (-1), (-1), 0), none), ((0, 1, 4, 1), some (1, 1))], [(1, 16), (2, 4), (0, 0)], [], [(4, 14, 15), (4, 8, 11), (3, 1, 4)], [(6, (-1))], [(200000, 13, 11), (900000011, 9, 10), (800009, 4, 8), (400000, 6, 7), (800006, 4, 5), (100000, 1, 2)], [], [], some [(4, 14, 15), (4, 8, 11)]))
def kh_moveStorms_I (l : Launch) (D : va_G) (tc : Nat → ClassId) (ad : Nat → Nat) (kd : Nat → Nat × Nat) (N : Nat) (sm : Nat → Nat) (xs : List av_X) (S : fw_S) (p : Program) (e : Env) (s : State) (m : MethodId) (args : Array Value) (below : List Frame) (meth : Method) (c : Code) (sz : Nat) (k : Nat) : Prop := (∀ (α : List av_X) (lv : List (Nat × Value)) (st : List Value) (S1 : fw_S), as_in ad sm wd_fl2 xs S kh_moveStorms.2.2.2.2.2.1 α kh_moveStorms_a2.2.2.1 lv st S1 → ((∀ k : Nat, k < 4 → (k : Int) < nv α 1 → stM S S1 k) ∧ (∀ k : Nat, k < 4 → nv α 1 ≤ (k : Int) → stK S S1 k)) → (4 - nv α 1).toNat < k → hd_WR R_move wd_fl2 kh_moveStorms kh_moveStorms_y l D tc ad kd N sm xs S p e s m args below meth c sz 2 lv st S1 0) ∧ True
set_option maxHeartbeats 16000000 in
set_option maxRecDepth 8000 in
theorem kh_moveStorms_h2 {l : Launch} {D : va_G} {tc : Nat → ClassId} {ad : Nat → Nat} {kd : Nat → Nat × Nat} {N : Nat} {sm : Nat → Nat} {xs : List av_X} {S : fw_S} {p : Program} {e : Env} {s : State} {m : MethodId} {args : Array Value} {below : List Frame} {meth : Method} {c : Code} {sz : Nat} {lvE : List (Nat × Value)} (G : hd_C wd_ff2 wd_fl2 kh_moveStorms [] kh_moveStorms_y l D tc ad kd N sm xs p s m args meth c sz) (H0 : as_in ad sm wd_fl2 xs S kh_moveStorms.2.2.2.2.2.1 xs (hd_0 kh_moveStorms) lvE [] S) {k : Nat} (ih : kh_moveStorms_I l D tc ad kd N sm xs S p e s m args below meth c sz k) : (∀ (α : List av_X) (lv : List (Nat × Value)) (st : List Value) (S1 : fw_S), as_in ad sm wd_fl2 xs S kh_moveStorms.2.2.2.2.2.1 α kh_moveStorms_a2.2.2.1 lv st S1 → ((∀ k : Nat, k < 4 → (k : Int) < nv α 1 → stM S S1 k) ∧ (∀ k : Nat, k < 4 → nv α 1 ≤ (k : Int) → stK S S1 k)) → (4 - nv α 1).toNat < k + 1 → hd_WR R_move wd_fl2 kh_moveStorms kh_moveStorms_y l D tc ad kd N sm xs S p e s m args below meth c sz 2 lv st S1 0) := by
  have hx : xs.length = 1 := by rw [H0.2.1.1]; rfl
  intro α lv st S1 H hp hk
  obtain ⟨α1, hle, Hr⟩ := as_recM (pl := []) [((796, 799), (0, 0, 0)), ((796, 799), (2, 2, 0))] (by decide +kernel) H
  have hf := H.2.2.2.2.2.2.2.2.2.2.1
  have hl1 : α1.length = 2 := by rw [Hr.2.1.1]; rfl
  have hl0 : α.length = 2 := by rw [H.2.1.1]; rfl
  have hxa : al_le xs α1 := H.1.trans hle
  obtain ⟨g1, -, g3, g4, -⟩ := as_fx Hr
  have g0 : (794 ≤ nv α1 0 ∧ nv α1 0 ≤ 794) ∧ (0 ≤ nv α1 1 ∧ nv α1 1 ≤ 4) ∧ True := by
    refine ⟨by have h := (en_nv (i := 0) Hr.2.1 rfl).2; exact h, by have h := (en_nv (i := 1) Hr.2.1 rfl).2; exact h, trivial⟩
  have r0 : nv α1 0 = nv α 0 := nv_le hle (by omega)
  have r1 : nv α1 1 = nv α 1 := nv_le hle (by omega)
  refine hd_segMR G (na := 2) (fuel := 600) (first := true) (Bs := [kh_moveStorms_b2_0, kh_moveStorms_b2_1, kh_moveStorms_b2_2, kh_moveStorms_b2_3]) (by decide +kernel) hl1 Hr ?_
  intro q hq β lv' st' S' H1
  simp only [List.mem_cons, List.not_mem_nil, or_false] at hq
  rcases hq with rfl | rfl | rfl | rfl
  · obtain ⟨f1, f2, f3, f4, f5⟩ := as_fx H1
    simp only [kh_moveStorms_b2_0, Nat.reduceEqDiff, if_false, fx_env, fx_c, fx_ne, fx_hf, wl_S, Nat.zero_add, Nat.reduceAdd, Nat.reduceDiv, Nat.reduceMod, List.getElem?_cons_zero, List.getElem?_cons_succ, if_true, and_true, true_and] at f1 f2 f3 f4 f5
    have fe0 : nv β 0 = 794 := by omega
    have fe1 : nv β 1 = 4 := by omega
    have fe2 : nv β 2 = 4 := by omega
    try simp only [fe0, fe1, fe2, Int.reduceToNat] at f2 f3 f4 f5
    have s0 : nv β 0 = nv α1 0 := nv_le H1.1 (by omega)
    have s1 : nv β 1 = nv α1 1 := nv_le H1.1 (by omega)
    have c0 := f2
    obtain ⟨p1, p2⟩ := hp
    exact hd_retVR G (by decide +kernel) (as_backM H1 (by decide +kernel) hxa hf) (by decide +kernel) (by decide) (fun k hk => by rw [show S' = S1 from f5]; exact p1 k hk (by omega))
  · obtain ⟨f1, f2, f3, f4, f5⟩ := as_fx H1
    simp only [kh_moveStorms_b2_1, Nat.reduceEqDiff, if_false, fx_env, fx_c, fx_ne, fx_hf, wl_S, Nat.zero_add, Nat.reduceAdd, Nat.reduceDiv, Nat.reduceMod, List.getElem?_cons_zero, List.getElem?_cons_succ, if_true, and_true, true_and] at f1 f2 f3 f4 f5
    have fe0 : nv β 0 = 794 := by omega
    have fe2 : nv β 2 = 4 := by omega
    have fe3 : nv β 3 = 795 := by omega
    have fe5 : nv β 5 = 0 := by omega
    have fe6 : nv β 6 = (-1) := by omega
    have fe7 : nv β 7 = (-1) := by omega
    try simp only [fe0, fe2, fe3, fe5, fe6, fe7, Int.reduceToNat] at f2 f3 f4 f5
    have s0 : nv β 0 = nv α1 0 := nv_le H1.1 (by omega)
    have s1 : nv β 1 = nv α1 1 := nv_le H1.1 (by omega)
    obtain ⟨c0, c1, c2⟩ := f2
    obtain ⟨α', Ha, hm⟩ := hd_gpM (q := kh_moveStorms_a2) (n := 0) (by decide +kernel) hx H1 (by decide +kernel) hxa hf
    have hfr := H1.2.2.2.2.2.2.2.2.2.2.1
    have m0 : nv α' 0 = nv β 0 := hm 0 0 rfl
    have m1 : nv α' 1 = nv β 8 := hm 1 8 rfl
    have rt4 := hf_rt (c := 795) (lo := 0) (hi := 3) (base := 796) (rv := 3) (iv := 1) (n := 4) (by decide +kernel) (by decide +kernel) H1 (by decide +kernel) (by omega) (by omega) (by omega)
    have o1 := old_i c1 (by have h := (en_nv (i := 6) H1.2.1 rfl).1; rw [fe6] at h; exact h)
    obtain ⟨p1, p2⟩ := hp
    have q0 := p2 (nv β 1).toNat (by omega) (by omega)
    have u0 : (S.1 (796 + (nv β 1).toNat) 0).toInt = nv β 6 := by rw [← q0.1, show 796 + (nv β 1).toNat = (nv β 4).toNat by omega]; exact o1.trans (by omega)
    have e5 : S' = S1 := f5
    have hM : stM S S' (nv β 1).toNat := by
      unfold stM stR stC
      rw [if_pos (by omega), if_pos (by omega), e5, q0.1, q0.2]
      exact ⟨by omega, rfl⟩
    refine ih.1 _ _ _ _ Ha ?_ ?_
    · rw [m1]
      refine ⟨fun k hk h => ?_, fun k hk h => ?_⟩
      · by_cases e : k = (nv β 1).toNat
        · rw [e]; exact hM
        · rw [e5]; exact p1 k hk (by omega)
      · rw [e5]; exact p2 k hk (by omega)
    · omega
  · obtain ⟨f1, f2, f3, f4, f5⟩ := as_fx H1
    simp only [kh_moveStorms_b2_2, Nat.reduceEqDiff, if_false, fx_env, fx_c, fx_ne, fx_hf, wl_S, Nat.zero_add, Nat.reduceAdd, Nat.reduceDiv, Nat.reduceMod, List.getElem?_cons_zero, List.getElem?_cons_succ, if_true, and_true, true_and] at f1 f2 f3 f4 f5
    have fe0 : nv β 0 = 794 := by omega
    have fe2 : nv β 2 = 4 := by omega
    have fe3 : nv β 3 = 795 := by omega
    have fe5 : nv β 5 = 0 := by omega
    have fe7 : nv β 7 = (-1) := by omega
    have fe8 : nv β 8 = 2 := by omega
    have fe10 : nv β 10 = 1 := by omega
    have fe12 : nv β 12 = 2 := by omega
    have fe13 : nv β 13 = 4 := by omega
    try simp only [fe0, fe2, fe3, fe5, fe7, fe8, fe10, fe12, fe13, Int.reduceToNat] at f2 f3 f4 f5
    have s0 : nv β 0 = nv α1 0 := nv_le H1.1 (by omega)
    have s1 : nv β 1 = nv α1 1 := nv_le H1.1 (by omega)
    obtain ⟨c0, c1, c2, c3, c4, c5⟩ := f2
    obtain ⟨α', Ha, hm⟩ := hd_gpM (q := kh_moveStorms_a2) (n := 0) (by decide +kernel) hx H1 (by decide +kernel) hxa hf
    have hfr := H1.2.2.2.2.2.2.2.2.2.2.1
    have m0 : nv α' 0 = nv β 0 := hm 0 0 rfl
    have m1 : nv α' 1 = nv β 14 := hm 1 14 rfl
    have rt4 := hf_rt (c := 795) (lo := 0) (hi := 3) (base := 796) (rv := 3) (iv := 1) (n := 4) (by decide +kernel) (by decide +kernel) H1 (by decide +kernel) (by omega) (by omega) (by omega)
    have o2 := old_i c2 (en_nv (i := 9) H1.2.1 rfl).1
    have o4 := old_i c4 (en_nv (i := 6) H1.2.1 rfl).1
    obtain ⟨p1, p2⟩ := hp
    have q0 := p2 (nv β 1).toNat (by omega) (by omega)
    have u0 : (S.1 (796 + (nv β 1).toNat) 0).toInt = nv β 6 := by rw [← q0.1, show 796 + (nv β 1).toNat = (nv β 4).toNat by omega]; exact o4.trans (by omega)
    have wA : ∀ a b : Nat, S'.1 a b = (if a = (nv β 4).toNat ∧ b = 2 then Int32.ofInt (nv β 11) else (S1.1 a b)) := fun a b => by rw [f5]; rfl
    have u2 : (S.1 (796 + (nv β 1).toNat) 2).toInt = nv β 9 := by rw [← q0.2, show 796 + (nv β 1).toNat = (nv β 4).toNat by omega]; exact o2
    have hw : nv β 11 = wrapI (nv β 9 + 1) := wrap_of (by omega) (by omega) (by omega)
    have hM : stM S S' (nv β 1).toNat := by
      unfold stM stR stC
      rw [u0, u2, ← hw, if_neg (by omega), if_neg (by omega), if_neg (by omega)]
      refine ⟨?_, ?_⟩
      · rw [wA]; rw [if_neg (by omega), q0.1]; exact u0
      · rw [wA]; (repeat' split) <;> first | (exfalso; omega) | rfl | (rw [i32_of (by omega) (by omega)] <;> omega) | omega
    refine ih.1 _ _ _ _ Ha ?_ ?_
    · rw [m1]
      refine ⟨fun k hk h => ?_, fun k hk h => ?_⟩
      · by_cases e : k = (nv β 1).toNat
        · rw [e]; exact hM
        · have g := p1 k hk (by omega)
          unfold stM at g ⊢
          rw [wA, if_neg (by omega), wA, if_neg (by omega)]
          exact g
      · have g := p2 k hk (by omega)
        unfold stK at g ⊢
        rw [wA, if_neg (by omega), wA, if_neg (by omega)]
        exact g
    · omega
  · obtain ⟨f1, f2, f3, f4, f5⟩ := as_fx H1
    simp only [kh_moveStorms_b2_3, Nat.reduceEqDiff, if_false, fx_env, fx_c, fx_ne, fx_hf, wl_S, Nat.zero_add, Nat.reduceAdd, Nat.reduceDiv, Nat.reduceMod, List.getElem?_cons_zero, List.getElem?_cons_succ, if_true, and_true, true_and] at f1 f2 f3 f4 f5
    have fe0 : nv β 0 = 794 := by omega
    have fe2 : nv β 2 = 4 := by omega
    have fe3 : nv β 3 = 795 := by omega
    have fe5 : nv β 5 = 0 := by omega
    have fe7 : nv β 7 = (-1) := by omega
    have fe8 : nv β 8 = 2 := by omega
    have fe10 : nv β 10 = 1 := by omega
    have fe12 : nv β 12 = 2 := by omega
    have fe13 : nv β 13 = 4 := by omega
    have fe14 : nv β 14 = 0 := by omega
    have fe15 : nv β 15 = (-1) := by omega
    try simp only [fe0, fe2, fe3, fe5, fe7, fe8, fe10, fe12, fe13, fe14, fe15, Int.reduceToNat] at f2 f3 f4 f5
    have s0 : nv β 0 = nv α1 0 := nv_le H1.1 (by omega)
    have s1 : nv β 1 = nv α1 1 := nv_le H1.1 (by omega)
    obtain ⟨c0, c1, c2, c3, c4, c5⟩ := f2
    obtain ⟨α', Ha, hm⟩ := hd_gpM (q := kh_moveStorms_a2) (n := 0) (by decide +kernel) hx H1 (by decide +kernel) hxa hf
    have hfr := H1.2.2.2.2.2.2.2.2.2.2.1
    have m0 : nv α' 0 = nv β 0 := hm 0 0 rfl
    have m1 : nv α' 1 = nv β 16 := hm 1 16 rfl
    have rt4 := hf_rt (c := 795) (lo := 0) (hi := 3) (base := 796) (rv := 3) (iv := 1) (n := 4) (by decide +kernel) (by decide +kernel) H1 (by decide +kernel) (by omega) (by omega) (by omega)
    have o2 := old_i c2 (en_nv (i := 9) H1.2.1 rfl).1
    have o4 := old_i c4 (en_nv (i := 6) H1.2.1 rfl).1
    obtain ⟨p1, p2⟩ := hp
    have q0 := p2 (nv β 1).toNat (by omega) (by omega)
    have u0 : (S.1 (796 + (nv β 1).toNat) 0).toInt = nv β 6 := by rw [← q0.1, show 796 + (nv β 1).toNat = (nv β 4).toNat by omega]; exact o4.trans (by omega)
    have wA : ∀ a b : Nat, S'.1 a b = (if a = (nv β 4).toNat ∧ b = 0 then Int32.ofInt ((-1)) else (if a = (nv β 4).toNat ∧ b = 2 then Int32.ofInt (nv β 11) else (S1.1 a b))) := fun a b => by rw [f5]; rfl
    have u2 : (S.1 (796 + (nv β 1).toNat) 2).toInt = nv β 9 := by rw [← q0.2, show 796 + (nv β 1).toNat = (nv β 4).toNat by omega]; exact o2
    have hw : nv β 11 = wrapI (nv β 9 + 1) := wrap_of (by omega) (by omega) (by omega)
    have hM : stM S S' (nv β 1).toNat := by
      unfold stM stR stC
      rw [u0, u2, ← hw, if_neg (by omega), if_pos (by omega), if_neg (by omega)]
      refine ⟨?_, ?_⟩
      · rw [wA]; (repeat' split) <;> first | (exfalso; omega) | rfl | (rw [i32_of (by omega) (by omega)] <;> omega) | omega
      · rw [wA]; (repeat' split) <;> first | (exfalso; omega) | rfl | (rw [i32_of (by omega) (by omega)] <;> omega) | omega
    refine ih.1 _ _ _ _ Ha ?_ ?_
    · rw [m1]
      refine ⟨fun k hk h => ?_, fun k hk h => ?_⟩
      · by_cases e : k = (nv β 1).toNat
        · rw [e]; exact hM
        · have g := p1 k hk (by omega)
          unfold stM at g ⊢
          rw [wA, if_neg (by omega), if_neg (by omega), wA, if_neg (by omega), if_neg (by omega)]
          exact g
      · have g := p2 k hk (by omega)
        unfold stK at g ⊢
        rw [wA, if_neg (by omega), if_neg (by omega), wA, if_neg (by omega), if_neg (by omega)]
        exact g
    · omega
set_option maxHeartbeats 16000000 in
set_option maxRecDepth 8000 in
theorem kh_moveStorms_okR : ct_okR wd_fl2 kh_moveStorms R_move := ct_handR (R := R_move) (ff := wd_ff2) (y := kh_moveStorms_y) (Cs := []) wd_fl2_ok rfl (List.forall_mem_nil _) (by decide +kernel) (fun l D tc ad kd N sm xs S p e s m args below meth c sz lv G H0 => by
  have hx : xs.length = 1 := by rw [H0.2.1.1]; rfl
  have hP : ∀ (k : Nat), kh_moveStorms_I l D tc ad kd N sm xs S p e s m args below meth c sz k := by
    intro k
    induction k with
    | zero => exact ⟨fun _ _ _ _ _ _ h => absurd h (Nat.not_lt_zero _), trivial⟩
    | succ k ih => exact ⟨kh_moveStorms_h2 G H0 ih, trivial⟩
  obtain ⟨α1, hle, Hr⟩ := as_recM (pl := []) [] (by decide +kernel) H0
  have hf := H0.2.2.2.2.2.2.2.2.2.2.1
  have hl1 : α1.length = 1 := by rw [Hr.2.1.1]; rfl
  have hl0 : xs.length = 1 := by rw [H0.2.1.1]; rfl
  have hxa : al_le xs α1 := H0.1.trans hle
  obtain ⟨g1, -, g3, g4, -⟩ := as_fx Hr
  have g0 : (794 ≤ nv α1 0 ∧ nv α1 0 ≤ 794) ∧ True := by
    refine ⟨by have h := (en_nv (i := 0) Hr.2.1 rfl).2; exact h, trivial⟩
  have r0 : nv α1 0 = nv xs 0 := nv_le hle (by omega)
  refine hd_segMR G (na := 1) (fuel := 600) (first := true) (Bs := [kh_moveStorms_b0_0]) (by decide +kernel) hl1 Hr ?_
  intro q hq β lv' st' S' H1
  simp only [List.mem_cons, List.not_mem_nil, or_false] at hq
  rcases hq with rfl
  · obtain ⟨f1, f2, f3, f4, f5⟩ := as_fx H1
    simp only [kh_moveStorms_b0_0, Nat.reduceEqDiff, if_false, fx_env, fx_c, fx_ne, fx_hf, wl_S, Nat.zero_add, Nat.reduceAdd, Nat.reduceDiv, Nat.reduceMod, List.getElem?_cons_zero, List.getElem?_cons_succ, if_true, and_true, true_and] at f1 f2 f3 f4 f5
    have fe0 : nv β 0 = 794 := by omega
    have fe1 : nv β 1 = 0 := by omega
    try simp only [fe0, fe1, Int.reduceToNat] at f2 f3 f4 f5
    have s0 : nv β 0 = nv α1 0 := nv_le H1.1 (by omega)
    obtain ⟨α', Ha, hm⟩ := hd_gpM (q := kh_moveStorms_a2) (n := 0) (by decide +kernel) hx H1 (by decide +kernel) hxa hf
    have hfr := H1.2.2.2.2.2.2.2.2.2.2.1
    have m0 : nv α' 0 = nv β 0 := hm 0 0 rfl
    have m1 : nv α' 1 = nv β 1 := hm 1 1 rfl

    refine (hP _).1 _ _ _ _ Ha ?_ (Nat.lt_succ_self _)
    · rw [show S' = S from f5]
      exact ⟨fun k hk h => by rw [m1] at h; omega, fun k hk h => ⟨rfl, rfl⟩⟩)
theorem kh_moveStorms_ok : ct_ok wd_fl2 kh_moveStorms := ct_okR_ok kh_moveStorms_okR
abbrev kh_nextSeed_y : mt_T := (⟨"UtilityWorks$Sky", "nextSeed", "()I"⟩, prog_8_method_4_code, 1, some .int, 6, 1, 0, 26066, 26065, 1012, 21013)
def kh_nextSeed : ct_T := (116, [(2, 794, 794, 1)], [], [], [(1, (0, 0, 65536, 1), [(2, 794, 794, 1)], [], ([], [(1045, 0, 0)]))], [], 0, 0, 0)
def kh_nextSeed_b0_0 : sg_T := (13, 0, ([((2, 794, 794, 1), none), ((0, 75, 75, 0), none), ((0, 4, 4, 0), none), ((0, 0, 65536, 1), none), ((0, 0, 4915200, 75), none), ((0, 74, 74, 0), none), ((0, 74, 4915274, 75), some (4, 74)), ((0, 65537, 65537, 0), none), ((0, 0, 65536, 1), none)], [(0, 0)], [8], [(0, 2, 3)], [], [(900200008, 6, 7), (500006, 4, 5), (700004, 1, 3), (800003, 0, 2)], [], [], some []))
set_option maxHeartbeats 16000000 in
set_option maxRecDepth 8000 in
theorem kh_nextSeed_ok : ct_ok wd_fl2 kh_nextSeed := ct_hand (ff := wd_ff2) (y := kh_nextSeed_y) (Cs := []) wd_fl2_ok rfl (List.forall_mem_nil _) (by decide +kernel) (fun l D tc ad kd N sm xs S p e s m args below meth c sz lv G H0 => by
  have hx : xs.length = 1 := by rw [H0.2.1.1]; rfl
  obtain ⟨α1, hle, Hr⟩ := as_recM (pl := []) [] (by decide +kernel) H0
  have hf := H0.2.2.2.2.2.2.2.2.2.2.1
  have hl1 : α1.length = 1 := by rw [Hr.2.1.1]; rfl
  have hl0 : xs.length = 1 := by rw [H0.2.1.1]; rfl
  have hxa : al_le xs α1 := H0.1.trans hle
  obtain ⟨g1, -, g3, g4, -⟩ := as_fx Hr
  have g0 : (794 ≤ nv α1 0 ∧ nv α1 0 ≤ 794) ∧ True := by
    refine ⟨by have h := (en_nv (i := 0) Hr.2.1 rfl).2; exact h, trivial⟩
  have r0 : nv α1 0 = nv xs 0 := nv_le hle (by omega)
  refine hd_segM G (na := 1) (fuel := 600) (first := true) (Bs := [kh_nextSeed_b0_0]) (by decide +kernel) hl1 Hr ?_
  intro q hq β lv' st' S' H1
  simp only [List.mem_cons, List.not_mem_nil, or_false] at hq
  rcases hq with rfl
  · obtain ⟨f1, f2, f3, f4, f5⟩ := as_fx H1
    simp only [kh_nextSeed_b0_0, Nat.reduceEqDiff, if_false, fx_env, fx_c, fx_ne, fx_hf, wl_S, Nat.zero_add, Nat.reduceAdd, Nat.reduceDiv, Nat.reduceMod, List.getElem?_cons_zero, List.getElem?_cons_succ, if_true, and_true, true_and] at f1 f2 f3 f4 f5
    have fe0 : nv β 0 = 794 := by omega
    have fe1 : nv β 1 = 75 := by omega
    have fe2 : nv β 2 = 4 := by omega
    have fe5 : nv β 5 = 74 := by omega
    have fe7 : nv β 7 = 65537 := by omega
    try simp only [fe0, fe1, fe2, fe5, fe7, Int.reduceToNat] at f2 f3 f4 f5
    have s0 : nv β 0 = nv α1 0 := nv_le H1.1 (by omega)
    obtain ⟨c0, c1, c2, c3⟩ := f2
    have o3 := old_i c3 (en_nv (i := 3) H1.2.1 rfl).1
    refine hd_retI G (v := 8) (by decide +kernel) (as_backM H1 (by decide +kernel) hxa hf) _ List.mem_cons_self rfl (by decide +kernel) (by decide) (fun w hw => ?_)
    rcases List.mem_singleton.mp hw with rfl
    have g0' := (en_nv (i := 0) H0.2.1 rfl).1
    refine ⟨_, _, g0', g0', ?_⟩
    rw [wd_fl2, if_neg (by decide)]
    show nv β 8 = nxtS (S.1 794 4).toInt
    rw [o3]
    unfold nxtS
    omega)
/- UtilityWorks$Grid linkOf -/
def kh_1004 : ct_T := (30, [(2, 8, 8, 1), (0, 0, 0, 0), (0, 0, 0, 0)], [], [], [(1, (2, 10, 10, 1), [(2, 8, 8, 1), (0, 0, 0, 0), (0, 0, 0, 0)], [], ([], []))], [], 0, 0, 0)
theorem kh_1004_ok : ct_ok wd_fl2 kh_1004 := ct_of (ff := wd_ff2) (y := (⟨"UtilityWorks$Grid", "linkOf", "(II)[I"⟩, prog_5_method_3_code, 3, some (.array .int), 3, 1, 2, 24035, 24033, 24034, 21004)) (Cs := []) (an := []) (ss := []) (K := 1) (fuel := 4000) wd_fl2_ok rfl (List.forall_mem_nil _) (by decide +kernel)
/- UtilityWorks$Grid isUnder -/
def kh_1005 : ct_T := (122, [(2, 8, 8, 1), (0, 0, 0, 0), (0, 0, 9, 1)], [], [], [(1, (0, 1, 1, 0), [(2, 8, 8, 1), (0, 0, 0, 0), (0, 0, 9, 1)], [((96, 96), (0, 0, 0), (0, 0, 17, 1)), ((96, 96), (1, 1, 0), (0, 0, 17, 1))], ([], [])), (1, (0, 0, 0, 0), [(2, 8, 8, 1), (0, 0, 0, 0), (0, 0, 9, 1)], [], ([], []))], [], 0, 0, 0)
theorem kh_1005_ok : ct_ok wd_fl2 kh_1005 := ct_of (ff := wd_ff2) (y := (⟨"UtilityWorks$Grid", "isUnder", "(II)Z"⟩, prog_5_method_23_code, 3, some .boolean, 3, 1, 2, 26095, 26093, 26094, 21004)) (Cs := []) (an := [(36, 0, ([((2, 8, 8, 1), none), ((0, 0, 0, 0), none), ((0, 0, 9, 1), none)], [(0, 0), (1, 1), (2, 2)], [], [], [], [], [], [], none), [(0, 0, 99964)])]) (ss := []) (K := 1) (fuel := 4000) wd_fl2_ok rfl (List.forall_mem_nil _) (by decide +kernel)
/- UtilityWorks$Sky isOver -/
def kh_1006 : ct_T := (120, [(2, 794, 794, 1), (0, 0, 3, 1), (0, 0, 0, 1)], [], [], [(1, (0, 1, 1, 0), [(2, 794, 794, 1), (0, 0, 3, 1), (0, 0, 0, 1)], [], ([], [])), (1, (0, 0, 0, 0), [(2, 794, 794, 1), (0, 0, 3, 1), (0, 0, 0, 1)], [], ([], []))], [], 1, 40, 0)
theorem kh_1006_ok : ct_ok wd_fl2 kh_1006 := ct_of (ff := wd_ff2) (y := (⟨"UtilityWorks$Sky", "isOver", "(II)Z"⟩, prog_8_method_11_code, 4, some .boolean, 6, 1, 2, 26085, 26084, 1015, 21013)) (Cs := []) (an := [(41, 0, ([((2, 794, 794, 1), none), ((0, 0, 3, 1), none), ((0, 0, 0, 1), none), ((2, 796, 799, 1), none)], [(0, 0), (1, 1), (2, 2), (3, 3)], [], [], [], [], [], [], none), [(0, 0, 99959)])]) (ss := []) (K := 1) (fuel := 4000) wd_fl2_ok rfl (List.forall_mem_nil _) (by decide +kernel)
/- UtilityWorks$Sky forceAt -/
def kh_1007 : ct_T := (119, [(2, 794, 794, 1), (0, 0, 0, 1)], [], [], [(1, (0, 0, 9, 1), [(2, 794, 794, 1), (0, 0, 0, 1)], [], ([], []))], [], 2, 63, 0)
theorem kh_1007_ok : ct_ok wd_fl2 kh_1007 := ct_of (ff := wd_ff2) (y := (⟨"UtilityWorks$Sky", "forceAt", "(I)I"⟩, prog_8_method_12_code, 4, some .int, 6, 1, 1, 26081, 26079, 26080, 21013)) (Cs := [kh_1006]) (an := [(4, 0, ([((2, 794, 794, 1), none), ((0, 0, 0, 1), none), ((0, (-1), 9, 1), none), ((0, 0, 4, 1), none)], [(0, 0), (1, 1), (2, 2), (3, 3)], [], [], [], [], [], [], none), [(0, 0, 99996), (1, 3, 4), (0, 0, 99996)]), (31, 0, ([((2, 794, 794, 1), none), ((0, 0, 0, 1), none), ((0, (-1), 9, 1), none), ((0, 0, 3, 1), none)], [(0, 0), (1, 1), (2, 2), (3, 3)], [], [], [], [], [], [], none), [(0, 0, 99996), (1, 3, 4), (0, 0, 99969)])]) (ss := []) (K := 3) (fuel := 4000) wd_fl2_ok rfl (List.forall_mem_cons.mpr ⟨kh_1006_ok, (List.forall_mem_nil _)⟩) (by decide +kernel)
/- UtilityWorks$Sky strikes -/
def kh_1008 : ct_T := (118, [(2, 794, 794, 1), (2, 8, 8, 1), (0, 0, 0, 1)], [], [], [(1, (0, 1, 1, 0), [(2, 794, 794, 1), (2, 8, 8, 1), (0, 0, 0, 1)], [], ([], [])), (1, (0, 0, 0, 0), [(2, 794, 794, 1), (2, 8, 8, 1), (0, 0, 0, 1)], [], ([], []))], [], 3, 86, 0)
theorem kh_1008_ok : ct_ok wd_fl2 kh_1008 := ct_of (ff := wd_ff2) (y := (⟨"UtilityWorks$Sky", "strikes", "(LUtilityWorks$Grid;I)Z"⟩, prog_8_method_13_code, 4, some .boolean, 6, 1, 2, 26077, 26076, 1014, 21013)) (Cs := [kh_1007]) (an := [(31, 0, ([((2, 794, 794, 1), none), ((2, 8, 8, 1), none), ((0, 0, 0, 1), none), ((0, 0, 9, 1), none)], [(0, 0), (1, 1), (2, 2), (3, 3)], [], [], [], [], [], [], none), [(0, 0, 99969)])]) (ss := []) (K := 1) (fuel := 4000) wd_fl2_ok rfl (List.forall_mem_cons.mpr ⟨kh_1007_ok, (List.forall_mem_nil _)⟩) (by decide +kernel)
/- UtilityWorks$Sky isOver -/
def kh_1009 : ct_T := (120, [(2, 794, 794, 1), (0, 0, 3, 1), (0, 1, 1, 1)], [], [], [(1, (0, 1, 1, 0), [(2, 794, 794, 1), (0, 0, 3, 1), (0, 1, 1, 1)], [], ([], [])), (1, (0, 0, 0, 0), [(2, 794, 794, 1), (0, 0, 3, 1), (0, 1, 1, 1)], [], ([], []))], [], 1, 40, 0)
theorem kh_1009_ok : ct_ok wd_fl2 kh_1009 := ct_of (ff := wd_ff2) (y := (⟨"UtilityWorks$Sky", "isOver", "(II)Z"⟩, prog_8_method_11_code, 4, some .boolean, 6, 1, 2, 26085, 26084, 1015, 21013)) (Cs := []) (an := [(41, 0, ([((2, 794, 794, 1), none), ((0, 0, 3, 1), none), ((0, 1, 1, 1), none), ((2, 796, 799, 1), none)], [(0, 0), (1, 1), (2, 2), (3, 3)], [], [], [], [], [], [], none), [(0, 0, 99959)])]) (ss := []) (K := 1) (fuel := 4000) wd_fl2_ok rfl (List.forall_mem_nil _) (by decide +kernel)
/- UtilityWorks$Sky countBroken -/
def kh_1010 : ct_T := (121, [(2, 794, 794, 1), (0, 0, 0, 0)], [], [], [(0, (0, 0, 0, 0), [(2, 794, 794, 1), (0, 0, 0, 0)], [], ([], []))], [((796, 799), (3, 3, 0)), ((800, 800), (0, 0, 0))], 2, 63, 0)
theorem kh_1010_ok : ct_ok wd_fl2 kh_1010 := ct_of (ff := wd_ff2) (y := (⟨"UtilityWorks$Sky", "countBroken", "(I)V"⟩, prog_8_method_16_code, 3, none, 6, 1, 1, 26091, 26090, 2000, 21013)) (Cs := [kh_1006, kh_1009]) (an := [(12, 0, ([((2, 794, 794, 1), none), ((0, 0, 0, 0), none), ((0, 0, 4, 1), none)], [(0, 0), (1, 1), (2, 2)], [], [], [], [], [], [], none), [(0, 0, 99988), (1, 2, 4), (0, 0, 99988)]), (43, 0, ([((2, 794, 794, 1), none), ((0, 0, 0, 0), none), ((0, 0, 3, 1), none)], [(0, 0), (1, 1), (2, 2)], [], [], [], [], [], [], none), [(0, 0, 99988), (1, 2, 4), (0, 0, 99957)]), (55, 0, ([((2, 794, 794, 1), none), ((0, 0, 0, 0), none), ((0, 0, 3, 1), none)], [(0, 0), (1, 1), (2, 2)], [], [], [], [], [], [], none), [(0, 0, 99988), (1, 2, 4), (0, 0, 99945)])]) (ss := []) (K := 3) (fuel := 4000) wd_fl2_ok rfl (List.forall_mem_cons.mpr ⟨kh_1006_ok, (List.forall_mem_cons.mpr ⟨kh_1009_ok, (List.forall_mem_nil _)⟩)⟩) (by decide +kernel)
/- UtilityWorks$Sky forceAt -/
def kh_1011 : ct_T := (119, [(2, 794, 794, 1), (0, 1, 1, 1)], [], [], [(1, (0, 0, 9, 1), [(2, 794, 794, 1), (0, 1, 1, 1)], [], ([], []))], [], 2, 63, 0)
theorem kh_1011_ok : ct_ok wd_fl2 kh_1011 := ct_of (ff := wd_ff2) (y := (⟨"UtilityWorks$Sky", "forceAt", "(I)I"⟩, prog_8_method_12_code, 4, some .int, 6, 1, 1, 26081, 26079, 26080, 21013)) (Cs := [kh_1009]) (an := [(4, 0, ([((2, 794, 794, 1), none), ((0, 1, 1, 1), none), ((0, (-1), 9, 1), none), ((0, 0, 4, 1), none)], [(0, 0), (1, 1), (2, 2), (3, 3)], [], [], [], [], [], [], none), [(0, 0, 99996), (1, 3, 4), (0, 0, 99996)]), (31, 0, ([((2, 794, 794, 1), none), ((0, 1, 1, 1), none), ((0, (-1), 9, 1), none), ((0, 0, 3, 1), none)], [(0, 0), (1, 1), (2, 2), (3, 3)], [], [], [], [], [], [], none), [(0, 0, 99996), (1, 3, 4), (0, 0, 99969)])]) (ss := []) (K := 3) (fuel := 4000) wd_fl2_ok rfl (List.forall_mem_cons.mpr ⟨kh_1009_ok, (List.forall_mem_nil _)⟩) (by decide +kernel)
/- UtilityWorks$Sky strikes -/
def kh_1012 : ct_T := (118, [(2, 794, 794, 1), (2, 8, 8, 1), (0, 1, 1, 1)], [], [], [(1, (0, 1, 1, 0), [(2, 794, 794, 1), (2, 8, 8, 1), (0, 1, 1, 1)], [], ([], [])), (1, (0, 0, 0, 0), [(2, 794, 794, 1), (2, 8, 8, 1), (0, 1, 1, 1)], [], ([], []))], [], 3, 86, 0)
theorem kh_1012_ok : ct_ok wd_fl2 kh_1012 := ct_of (ff := wd_ff2) (y := (⟨"UtilityWorks$Sky", "strikes", "(LUtilityWorks$Grid;I)Z"⟩, prog_8_method_13_code, 4, some .boolean, 6, 1, 2, 26077, 26076, 1014, 21013)) (Cs := [kh_1011]) (an := [(31, 0, ([((2, 794, 794, 1), none), ((2, 8, 8, 1), none), ((0, 1, 1, 1), none), ((0, 0, 9, 1), none)], [(0, 0), (1, 1), (2, 2), (3, 3)], [], [], [], [], [], [], none), [(0, 0, 99969)])]) (ss := []) (K := 1) (fuel := 4000) wd_fl2_ok rfl (List.forall_mem_cons.mpr ⟨kh_1011_ok, (List.forall_mem_nil _)⟩) (by decide +kernel)
/- UtilityWorks$Grid linkOf -/
def kh_1013 : ct_T := (30, [(2, 8, 8, 1), (0, 0, 0, 0), (0, 0, 1, 1)], [], [], [(1, (2, 10, 11, 1), [(2, 8, 8, 1), (0, 0, 0, 0), (0, 0, 1, 1)], [], ([], []))], [], 0, 0, 0)
theorem kh_1013_ok : ct_ok wd_fl2 kh_1013 := ct_of (ff := wd_ff2) (y := (⟨"UtilityWorks$Grid", "linkOf", "(II)[I"⟩, prog_5_method_3_code, 3, some (.array .int), 3, 1, 2, 24035, 24033, 24034, 21004)) (Cs := []) (an := []) (ss := []) (K := 1) (fuel := 4000) wd_fl2_ok rfl (List.forall_mem_nil _) (by decide +kernel)
/- UtilityWorks$Grid isUnder -/
def kh_1014 : ct_T := (122, [(2, 8, 8, 1), (0, 0, 1, 1), (0, 0, 9, 1)], [], [], [(1, (0, 1, 1, 0), [(2, 8, 8, 1), (0, 0, 1, 1), (0, 0, 9, 1)], [], ([], [])), (1, (0, 0, 0, 0), [(2, 8, 8, 1), (0, 0, 1, 1), (0, 0, 9, 1)], [], ([], []))], [], 0, 0, 0)
theorem kh_1014_ok : ct_ok wd_fl2 kh_1014 := ct_of (ff := wd_ff2) (y := (⟨"UtilityWorks$Grid", "isUnder", "(II)Z"⟩, prog_5_method_23_code, 3, some .boolean, 3, 1, 2, 26095, 26093, 26094, 21004)) (Cs := []) (an := [(36, 0, ([((2, 8, 8, 1), none), ((0, 0, 1, 1), none), ((0, 0, 9, 1), none)], [(0, 0), (1, 1), (2, 2)], [], [], [], [], [], [], none), [(0, 0, 99964)])]) (ss := []) (K := 1) (fuel := 4000) wd_fl2_ok rfl (List.forall_mem_nil _) (by decide +kernel)
/- UtilityWorks$Sky isOver -/
def kh_1015 : ct_T := (120, [(2, 794, 794, 1), (0, 0, 3, 1), (0, 0, 1, 1)], [], [], [(1, (0, 1, 1, 0), [(2, 794, 794, 1), (0, 0, 3, 1), (0, 0, 1, 1)], [], ([], [])), (1, (0, 0, 0, 0), [(2, 794, 794, 1), (0, 0, 3, 1), (0, 0, 1, 1)], [], ([], []))], [], 1, 40, 0)
theorem kh_1015_ok : ct_ok wd_fl2 kh_1015 := ct_of (ff := wd_ff2) (y := (⟨"UtilityWorks$Sky", "isOver", "(II)Z"⟩, prog_8_method_11_code, 4, some .boolean, 6, 1, 2, 26085, 26084, 1015, 21013)) (Cs := []) (an := [(41, 0, ([((2, 794, 794, 1), none), ((0, 0, 3, 1), none), ((0, 0, 1, 1), none), ((2, 796, 799, 1), none)], [(0, 0), (1, 1), (2, 2), (3, 3)], [], [], [], [], [], [], none), [(0, 0, 99959)])]) (ss := []) (K := 1) (fuel := 4000) wd_fl2_ok rfl (List.forall_mem_nil _) (by decide +kernel)
/- UtilityWorks$Sky forceAt -/
def kh_1016 : ct_T := (119, [(2, 794, 794, 1), (0, 0, 1, 1)], [], [], [(1, (0, 0, 9, 1), [(2, 794, 794, 1), (0, 0, 1, 1)], [], ([], []))], [], 2, 63, 0)
theorem kh_1016_ok : ct_ok wd_fl2 kh_1016 := ct_of (ff := wd_ff2) (y := (⟨"UtilityWorks$Sky", "forceAt", "(I)I"⟩, prog_8_method_12_code, 4, some .int, 6, 1, 1, 26081, 26079, 26080, 21013)) (Cs := [kh_1015]) (an := [(4, 0, ([((2, 794, 794, 1), none), ((0, 0, 1, 1), none), ((0, (-1), 9, 1), none), ((0, 0, 4, 1), none)], [(0, 0), (1, 1), (2, 2), (3, 3)], [], [], [], [], [], [], none), [(0, 0, 99996), (1, 3, 4), (0, 0, 99996)]), (31, 0, ([((2, 794, 794, 1), none), ((0, 0, 1, 1), none), ((0, (-1), 9, 1), none), ((0, 0, 3, 1), none)], [(0, 0), (1, 1), (2, 2), (3, 3)], [], [], [], [], [], [], none), [(0, 0, 99996), (1, 3, 4), (0, 0, 99969)])]) (ss := []) (K := 3) (fuel := 4000) wd_fl2_ok rfl (List.forall_mem_cons.mpr ⟨kh_1015_ok, (List.forall_mem_nil _)⟩) (by decide +kernel)
/- UtilityWorks$Sky strikes -/
def kh_1017 : ct_T := (118, [(2, 794, 794, 1), (2, 8, 8, 1), (0, 0, 1, 1)], [], [], [(1, (0, 1, 1, 0), [(2, 794, 794, 1), (2, 8, 8, 1), (0, 0, 1, 1)], [], ([], [])), (1, (0, 0, 0, 0), [(2, 794, 794, 1), (2, 8, 8, 1), (0, 0, 1, 1)], [], ([], []))], [], 3, 86, 0)
theorem kh_1017_ok : ct_ok wd_fl2 kh_1017 := ct_of (ff := wd_ff2) (y := (⟨"UtilityWorks$Sky", "strikes", "(LUtilityWorks$Grid;I)Z"⟩, prog_8_method_13_code, 4, some .boolean, 6, 1, 2, 26077, 26076, 1014, 21013)) (Cs := [kh_1016]) (an := [(31, 0, ([((2, 794, 794, 1), none), ((2, 8, 8, 1), none), ((0, 0, 1, 1), none), ((0, 0, 9, 1), none)], [(0, 0), (1, 1), (2, 2), (3, 3)], [], [], [], [], [], [], none), [(0, 0, 99969)])]) (ss := []) (K := 1) (fuel := 4000) wd_fl2_ok rfl (List.forall_mem_cons.mpr ⟨kh_1016_ok, (List.forall_mem_nil _)⟩) (by decide +kernel)
/- UtilityWorks$Sky isOver -/
def kh_1018 : ct_T := (120, [(2, 794, 794, 1), (0, 0, 3, 1), (0, 1, 2, 1)], [], [], [(1, (0, 1, 1, 0), [(2, 794, 794, 1), (0, 0, 3, 1), (0, 1, 2, 1)], [], ([], [])), (1, (0, 0, 0, 0), [(2, 794, 794, 1), (0, 0, 3, 1), (0, 1, 2, 1)], [], ([], []))], [], 1, 40, 0)
theorem kh_1018_ok : ct_ok wd_fl2 kh_1018 := ct_of (ff := wd_ff2) (y := (⟨"UtilityWorks$Sky", "isOver", "(II)Z"⟩, prog_8_method_11_code, 4, some .boolean, 6, 1, 2, 26085, 26084, 1015, 21013)) (Cs := []) (an := [(41, 0, ([((2, 794, 794, 1), none), ((0, 0, 3, 1), none), ((0, 1, 2, 1), none), ((2, 796, 799, 1), none)], [(0, 0), (1, 1), (2, 2), (3, 3)], [], [], [], [], [], [], none), [(0, 0, 99959)])]) (ss := []) (K := 1) (fuel := 4000) wd_fl2_ok rfl (List.forall_mem_nil _) (by decide +kernel)
/- UtilityWorks$Sky countBroken -/
def kh_1019 : ct_T := (121, [(2, 794, 794, 1), (0, 0, 1, 1)], [], [], [(0, (0, 0, 0, 0), [(2, 794, 794, 1), (0, 0, 1, 1)], [], ([], []))], [((796, 799), (3, 3, 0)), ((800, 800), (0, 0, 0))], 2, 63, 0)
theorem kh_1019_ok : ct_ok wd_fl2 kh_1019 := ct_of (ff := wd_ff2) (y := (⟨"UtilityWorks$Sky", "countBroken", "(I)V"⟩, prog_8_method_16_code, 3, none, 6, 1, 1, 26091, 26090, 2000, 21013)) (Cs := [kh_1015, kh_1018]) (an := [(12, 0, ([((2, 794, 794, 1), none), ((0, 0, 1, 1), none), ((0, 0, 4, 1), none)], [(0, 0), (1, 1), (2, 2)], [], [], [], [], [], [], none), [(0, 0, 99988), (1, 2, 4), (0, 0, 99988)]), (43, 0, ([((2, 794, 794, 1), none), ((0, 0, 1, 1), none), ((0, 0, 3, 1), none)], [(0, 0), (1, 1), (2, 2)], [], [], [], [], [], [], none), [(0, 0, 99988), (1, 2, 4), (0, 0, 99957)]), (55, 0, ([((2, 794, 794, 1), none), ((0, 0, 1, 1), none), ((0, 0, 3, 1), none)], [(0, 0), (1, 1), (2, 2)], [], [], [], [], [], [], none), [(0, 0, 99988), (1, 2, 4), (0, 0, 99945)])]) (ss := []) (K := 3) (fuel := 4000) wd_fl2_ok rfl (List.forall_mem_cons.mpr ⟨kh_1015_ok, (List.forall_mem_cons.mpr ⟨kh_1018_ok, (List.forall_mem_nil _)⟩)⟩) (by decide +kernel)
/- UtilityWorks$Sky forceAt -/
def kh_1020 : ct_T := (119, [(2, 794, 794, 1), (0, 1, 2, 1)], [], [], [(1, (0, 0, 9, 1), [(2, 794, 794, 1), (0, 1, 2, 1)], [], ([], []))], [], 2, 63, 0)
theorem kh_1020_ok : ct_ok wd_fl2 kh_1020 := ct_of (ff := wd_ff2) (y := (⟨"UtilityWorks$Sky", "forceAt", "(I)I"⟩, prog_8_method_12_code, 4, some .int, 6, 1, 1, 26081, 26079, 26080, 21013)) (Cs := [kh_1018]) (an := [(4, 0, ([((2, 794, 794, 1), none), ((0, 1, 2, 1), none), ((0, (-1), 9, 1), none), ((0, 0, 4, 1), none)], [(0, 0), (1, 1), (2, 2), (3, 3)], [], [], [], [], [], [], none), [(0, 0, 99996), (1, 3, 4), (0, 0, 99996)]), (31, 0, ([((2, 794, 794, 1), none), ((0, 1, 2, 1), none), ((0, (-1), 9, 1), none), ((0, 0, 3, 1), none)], [(0, 0), (1, 1), (2, 2), (3, 3)], [], [], [], [], [], [], none), [(0, 0, 99996), (1, 3, 4), (0, 0, 99969)])]) (ss := []) (K := 3) (fuel := 4000) wd_fl2_ok rfl (List.forall_mem_cons.mpr ⟨kh_1018_ok, (List.forall_mem_nil _)⟩) (by decide +kernel)
/- UtilityWorks$Sky strikes -/
def kh_1021 : ct_T := (118, [(2, 794, 794, 1), (2, 8, 8, 1), (0, 1, 2, 1)], [], [], [(1, (0, 1, 1, 0), [(2, 794, 794, 1), (2, 8, 8, 1), (0, 1, 2, 1)], [], ([], [])), (1, (0, 0, 0, 0), [(2, 794, 794, 1), (2, 8, 8, 1), (0, 1, 2, 1)], [], ([], []))], [], 3, 86, 0)
theorem kh_1021_ok : ct_ok wd_fl2 kh_1021 := ct_of (ff := wd_ff2) (y := (⟨"UtilityWorks$Sky", "strikes", "(LUtilityWorks$Grid;I)Z"⟩, prog_8_method_13_code, 4, some .boolean, 6, 1, 2, 26077, 26076, 1014, 21013)) (Cs := [kh_1020]) (an := [(31, 0, ([((2, 794, 794, 1), none), ((2, 8, 8, 1), none), ((0, 1, 2, 1), none), ((0, 0, 9, 1), none)], [(0, 0), (1, 1), (2, 2), (3, 3)], [], [], [], [], [], [], none), [(0, 0, 99969)])]) (ss := []) (K := 1) (fuel := 4000) wd_fl2_ok rfl (List.forall_mem_cons.mpr ⟨kh_1020_ok, (List.forall_mem_nil _)⟩) (by decide +kernel)
/- UtilityWorks$Grid linkOf -/
def kh_1022 : ct_T := (30, [(2, 8, 8, 1), (0, 0, 0, 0), (0, 0, 2, 1)], [], [], [(1, (2, 10, 12, 1), [(2, 8, 8, 1), (0, 0, 0, 0), (0, 0, 2, 1)], [], ([], []))], [], 0, 0, 0)
theorem kh_1022_ok : ct_ok wd_fl2 kh_1022 := ct_of (ff := wd_ff2) (y := (⟨"UtilityWorks$Grid", "linkOf", "(II)[I"⟩, prog_5_method_3_code, 3, some (.array .int), 3, 1, 2, 24035, 24033, 24034, 21004)) (Cs := []) (an := []) (ss := []) (K := 1) (fuel := 4000) wd_fl2_ok rfl (List.forall_mem_nil _) (by decide +kernel)
/- UtilityWorks$Grid isUnder -/
def kh_1023 : ct_T := (122, [(2, 8, 8, 1), (0, 0, 2, 1), (0, 0, 9, 1)], [], [], [(1, (0, 1, 1, 0), [(2, 8, 8, 1), (0, 0, 2, 1), (0, 0, 9, 1)], [], ([], [])), (1, (0, 0, 0, 0), [(2, 8, 8, 1), (0, 0, 2, 1), (0, 0, 9, 1)], [], ([], []))], [], 0, 0, 0)
theorem kh_1023_ok : ct_ok wd_fl2 kh_1023 := ct_of (ff := wd_ff2) (y := (⟨"UtilityWorks$Grid", "isUnder", "(II)Z"⟩, prog_5_method_23_code, 3, some .boolean, 3, 1, 2, 26095, 26093, 26094, 21004)) (Cs := []) (an := [(36, 0, ([((2, 8, 8, 1), none), ((0, 0, 2, 1), none), ((0, 0, 9, 1), none)], [(0, 0), (1, 1), (2, 2)], [], [], [], [], [], [], none), [(0, 0, 99964)])]) (ss := []) (K := 1) (fuel := 4000) wd_fl2_ok rfl (List.forall_mem_nil _) (by decide +kernel)
/- UtilityWorks$Sky isOver -/
def kh_1024 : ct_T := (120, [(2, 794, 794, 1), (0, 0, 3, 1), (0, 0, 2, 1)], [], [], [(1, (0, 1, 1, 0), [(2, 794, 794, 1), (0, 0, 3, 1), (0, 0, 2, 1)], [], ([], [])), (1, (0, 0, 0, 0), [(2, 794, 794, 1), (0, 0, 3, 1), (0, 0, 2, 1)], [], ([], []))], [], 1, 40, 0)
theorem kh_1024_ok : ct_ok wd_fl2 kh_1024 := ct_of (ff := wd_ff2) (y := (⟨"UtilityWorks$Sky", "isOver", "(II)Z"⟩, prog_8_method_11_code, 4, some .boolean, 6, 1, 2, 26085, 26084, 1015, 21013)) (Cs := []) (an := [(41, 0, ([((2, 794, 794, 1), none), ((0, 0, 3, 1), none), ((0, 0, 2, 1), none), ((2, 796, 799, 1), none)], [(0, 0), (1, 1), (2, 2), (3, 3)], [], [], [], [], [], [], none), [(0, 0, 99959)])]) (ss := []) (K := 1) (fuel := 4000) wd_fl2_ok rfl (List.forall_mem_nil _) (by decide +kernel)
/- UtilityWorks$Sky forceAt -/
def kh_1025 : ct_T := (119, [(2, 794, 794, 1), (0, 0, 2, 1)], [], [], [(1, (0, 0, 9, 1), [(2, 794, 794, 1), (0, 0, 2, 1)], [], ([], []))], [], 2, 63, 0)
theorem kh_1025_ok : ct_ok wd_fl2 kh_1025 := ct_of (ff := wd_ff2) (y := (⟨"UtilityWorks$Sky", "forceAt", "(I)I"⟩, prog_8_method_12_code, 4, some .int, 6, 1, 1, 26081, 26079, 26080, 21013)) (Cs := [kh_1024]) (an := [(4, 0, ([((2, 794, 794, 1), none), ((0, 0, 2, 1), none), ((0, (-1), 9, 1), none), ((0, 0, 4, 1), none)], [(0, 0), (1, 1), (2, 2), (3, 3)], [], [], [], [], [], [], none), [(0, 0, 99996), (1, 3, 4), (0, 0, 99996)]), (31, 0, ([((2, 794, 794, 1), none), ((0, 0, 2, 1), none), ((0, (-1), 9, 1), none), ((0, 0, 3, 1), none)], [(0, 0), (1, 1), (2, 2), (3, 3)], [], [], [], [], [], [], none), [(0, 0, 99996), (1, 3, 4), (0, 0, 99969)])]) (ss := []) (K := 3) (fuel := 4000) wd_fl2_ok rfl (List.forall_mem_cons.mpr ⟨kh_1024_ok, (List.forall_mem_nil _)⟩) (by decide +kernel)
/- UtilityWorks$Sky strikes -/
def kh_1026 : ct_T := (118, [(2, 794, 794, 1), (2, 8, 8, 1), (0, 0, 2, 1)], [], [], [(1, (0, 1, 1, 0), [(2, 794, 794, 1), (2, 8, 8, 1), (0, 0, 2, 1)], [], ([], [])), (1, (0, 0, 0, 0), [(2, 794, 794, 1), (2, 8, 8, 1), (0, 0, 2, 1)], [], ([], []))], [], 3, 86, 0)
theorem kh_1026_ok : ct_ok wd_fl2 kh_1026 := ct_of (ff := wd_ff2) (y := (⟨"UtilityWorks$Sky", "strikes", "(LUtilityWorks$Grid;I)Z"⟩, prog_8_method_13_code, 4, some .boolean, 6, 1, 2, 26077, 26076, 1014, 21013)) (Cs := [kh_1025]) (an := [(31, 0, ([((2, 794, 794, 1), none), ((2, 8, 8, 1), none), ((0, 0, 2, 1), none), ((0, 0, 9, 1), none)], [(0, 0), (1, 1), (2, 2), (3, 3)], [], [], [], [], [], [], none), [(0, 0, 99969)])]) (ss := []) (K := 1) (fuel := 4000) wd_fl2_ok rfl (List.forall_mem_cons.mpr ⟨kh_1025_ok, (List.forall_mem_nil _)⟩) (by decide +kernel)
/- UtilityWorks$Sky isOver -/
def kh_1027 : ct_T := (120, [(2, 794, 794, 1), (0, 0, 3, 1), (0, 1, 3, 1)], [], [], [(1, (0, 1, 1, 0), [(2, 794, 794, 1), (0, 0, 3, 1), (0, 1, 3, 1)], [], ([], [])), (1, (0, 0, 0, 0), [(2, 794, 794, 1), (0, 0, 3, 1), (0, 1, 3, 1)], [], ([], []))], [], 1, 40, 0)
theorem kh_1027_ok : ct_ok wd_fl2 kh_1027 := ct_of (ff := wd_ff2) (y := (⟨"UtilityWorks$Sky", "isOver", "(II)Z"⟩, prog_8_method_11_code, 4, some .boolean, 6, 1, 2, 26085, 26084, 1015, 21013)) (Cs := []) (an := [(41, 0, ([((2, 794, 794, 1), none), ((0, 0, 3, 1), none), ((0, 1, 3, 1), none), ((2, 796, 799, 1), none)], [(0, 0), (1, 1), (2, 2), (3, 3)], [], [], [], [], [], [], none), [(0, 0, 99959)])]) (ss := []) (K := 1) (fuel := 4000) wd_fl2_ok rfl (List.forall_mem_nil _) (by decide +kernel)
/- UtilityWorks$Sky countBroken -/
def kh_1028 : ct_T := (121, [(2, 794, 794, 1), (0, 0, 2, 1)], [], [], [(0, (0, 0, 0, 0), [(2, 794, 794, 1), (0, 0, 2, 1)], [], ([], []))], [((796, 799), (3, 3, 0)), ((800, 800), (0, 0, 0))], 2, 63, 0)
theorem kh_1028_ok : ct_ok wd_fl2 kh_1028 := ct_of (ff := wd_ff2) (y := (⟨"UtilityWorks$Sky", "countBroken", "(I)V"⟩, prog_8_method_16_code, 3, none, 6, 1, 1, 26091, 26090, 2000, 21013)) (Cs := [kh_1024, kh_1027]) (an := [(12, 0, ([((2, 794, 794, 1), none), ((0, 0, 2, 1), none), ((0, 0, 4, 1), none)], [(0, 0), (1, 1), (2, 2)], [], [], [], [], [], [], none), [(0, 0, 99988), (1, 2, 4), (0, 0, 99988)]), (43, 0, ([((2, 794, 794, 1), none), ((0, 0, 2, 1), none), ((0, 0, 3, 1), none)], [(0, 0), (1, 1), (2, 2)], [], [], [], [], [], [], none), [(0, 0, 99988), (1, 2, 4), (0, 0, 99957)]), (55, 0, ([((2, 794, 794, 1), none), ((0, 0, 2, 1), none), ((0, 0, 3, 1), none)], [(0, 0), (1, 1), (2, 2)], [], [], [], [], [], [], none), [(0, 0, 99988), (1, 2, 4), (0, 0, 99945)])]) (ss := []) (K := 3) (fuel := 4000) wd_fl2_ok rfl (List.forall_mem_cons.mpr ⟨kh_1024_ok, (List.forall_mem_cons.mpr ⟨kh_1027_ok, (List.forall_mem_nil _)⟩)⟩) (by decide +kernel)
/- UtilityWorks$Sky forceAt -/
def kh_1029 : ct_T := (119, [(2, 794, 794, 1), (0, 1, 3, 1)], [], [], [(1, (0, 0, 9, 1), [(2, 794, 794, 1), (0, 1, 3, 1)], [], ([], []))], [], 2, 63, 0)
theorem kh_1029_ok : ct_ok wd_fl2 kh_1029 := ct_of (ff := wd_ff2) (y := (⟨"UtilityWorks$Sky", "forceAt", "(I)I"⟩, prog_8_method_12_code, 4, some .int, 6, 1, 1, 26081, 26079, 26080, 21013)) (Cs := [kh_1027]) (an := [(4, 0, ([((2, 794, 794, 1), none), ((0, 1, 3, 1), none), ((0, (-1), 9, 1), none), ((0, 0, 4, 1), none)], [(0, 0), (1, 1), (2, 2), (3, 3)], [], [], [], [], [], [], none), [(0, 0, 99996), (1, 3, 4), (0, 0, 99996)]), (31, 0, ([((2, 794, 794, 1), none), ((0, 1, 3, 1), none), ((0, (-1), 9, 1), none), ((0, 0, 3, 1), none)], [(0, 0), (1, 1), (2, 2), (3, 3)], [], [], [], [], [], [], none), [(0, 0, 99996), (1, 3, 4), (0, 0, 99969)])]) (ss := []) (K := 3) (fuel := 4000) wd_fl2_ok rfl (List.forall_mem_cons.mpr ⟨kh_1027_ok, (List.forall_mem_nil _)⟩) (by decide +kernel)
/- UtilityWorks$Sky strikes -/
def kh_1030 : ct_T := (118, [(2, 794, 794, 1), (2, 8, 8, 1), (0, 1, 3, 1)], [], [], [(1, (0, 1, 1, 0), [(2, 794, 794, 1), (2, 8, 8, 1), (0, 1, 3, 1)], [], ([], [])), (1, (0, 0, 0, 0), [(2, 794, 794, 1), (2, 8, 8, 1), (0, 1, 3, 1)], [], ([], []))], [], 3, 86, 0)
theorem kh_1030_ok : ct_ok wd_fl2 kh_1030 := ct_of (ff := wd_ff2) (y := (⟨"UtilityWorks$Sky", "strikes", "(LUtilityWorks$Grid;I)Z"⟩, prog_8_method_13_code, 4, some .boolean, 6, 1, 2, 26077, 26076, 1014, 21013)) (Cs := [kh_1029]) (an := [(31, 0, ([((2, 794, 794, 1), none), ((2, 8, 8, 1), none), ((0, 1, 3, 1), none), ((0, 0, 9, 1), none)], [(0, 0), (1, 1), (2, 2), (3, 3)], [], [], [], [], [], [], none), [(0, 0, 99969)])]) (ss := []) (K := 1) (fuel := 4000) wd_fl2_ok rfl (List.forall_mem_cons.mpr ⟨kh_1029_ok, (List.forall_mem_nil _)⟩) (by decide +kernel)
/- UtilityWorks$Grid linkOf -/
def kh_1031 : ct_T := (30, [(2, 8, 8, 1), (0, 0, 0, 0), (0, 0, 3, 1)], [], [], [(1, (2, 10, 13, 1), [(2, 8, 8, 1), (0, 0, 0, 0), (0, 0, 3, 1)], [], ([], []))], [], 0, 0, 0)
theorem kh_1031_ok : ct_ok wd_fl2 kh_1031 := ct_of (ff := wd_ff2) (y := (⟨"UtilityWorks$Grid", "linkOf", "(II)[I"⟩, prog_5_method_3_code, 3, some (.array .int), 3, 1, 2, 24035, 24033, 24034, 21004)) (Cs := []) (an := []) (ss := []) (K := 1) (fuel := 4000) wd_fl2_ok rfl (List.forall_mem_nil _) (by decide +kernel)
/- UtilityWorks$Grid isUnder -/
def kh_1032 : ct_T := (122, [(2, 8, 8, 1), (0, 0, 3, 1), (0, 0, 9, 1)], [], [], [(1, (0, 1, 1, 0), [(2, 8, 8, 1), (0, 0, 3, 1), (0, 0, 9, 1)], [], ([], [])), (1, (0, 0, 0, 0), [(2, 8, 8, 1), (0, 0, 3, 1), (0, 0, 9, 1)], [], ([], []))], [], 0, 0, 0)
theorem kh_1032_ok : ct_ok wd_fl2 kh_1032 := ct_of (ff := wd_ff2) (y := (⟨"UtilityWorks$Grid", "isUnder", "(II)Z"⟩, prog_5_method_23_code, 3, some .boolean, 3, 1, 2, 26095, 26093, 26094, 21004)) (Cs := []) (an := [(36, 0, ([((2, 8, 8, 1), none), ((0, 0, 3, 1), none), ((0, 0, 9, 1), none)], [(0, 0), (1, 1), (2, 2)], [], [], [], [], [], [], none), [(0, 0, 99964)])]) (ss := []) (K := 1) (fuel := 4000) wd_fl2_ok rfl (List.forall_mem_nil _) (by decide +kernel)
/- UtilityWorks$Sky isOver -/
def kh_1033 : ct_T := (120, [(2, 794, 794, 1), (0, 0, 3, 1), (0, 0, 4, 1)], [], [], [(1, (0, 1, 1, 0), [(2, 794, 794, 1), (0, 0, 3, 1), (0, 0, 4, 1)], [], ([], [])), (1, (0, 0, 0, 0), [(2, 794, 794, 1), (0, 0, 3, 1), (0, 0, 4, 1)], [], ([], []))], [], 1, 40, 0)
theorem kh_1033_ok : ct_ok wd_fl2 kh_1033 := ct_of (ff := wd_ff2) (y := (⟨"UtilityWorks$Sky", "isOver", "(II)Z"⟩, prog_8_method_11_code, 4, some .boolean, 6, 1, 2, 26085, 26084, 1015, 21013)) (Cs := []) (an := [(41, 0, ([((2, 794, 794, 1), none), ((0, 0, 3, 1), none), ((0, 0, 4, 1), none), ((2, 796, 799, 1), none)], [(0, 0), (1, 1), (2, 2), (3, 3)], [], [], [], [], [], [], none), [(0, 0, 99959)])]) (ss := []) (K := 1) (fuel := 4000) wd_fl2_ok rfl (List.forall_mem_nil _) (by decide +kernel)
/- UtilityWorks$Sky forceAt -/
def kh_1034 : ct_T := (119, [(2, 794, 794, 1), (0, 0, 4, 1)], [], [], [(1, (0, 0, 9, 1), [(2, 794, 794, 1), (0, 0, 4, 1)], [], ([], []))], [], 2, 63, 0)
theorem kh_1034_ok : ct_ok wd_fl2 kh_1034 := ct_of (ff := wd_ff2) (y := (⟨"UtilityWorks$Sky", "forceAt", "(I)I"⟩, prog_8_method_12_code, 4, some .int, 6, 1, 1, 26081, 26079, 26080, 21013)) (Cs := [kh_1033]) (an := [(4, 0, ([((2, 794, 794, 1), none), ((0, 0, 4, 1), none), ((0, (-1), 9, 1), none), ((0, 0, 4, 1), none)], [(0, 0), (1, 1), (2, 2), (3, 3)], [], [], [], [], [], [], none), [(0, 0, 99996), (1, 3, 4), (0, 0, 99996)]), (31, 0, ([((2, 794, 794, 1), none), ((0, 0, 4, 1), none), ((0, (-1), 9, 1), none), ((0, 0, 3, 1), none)], [(0, 0), (1, 1), (2, 2), (3, 3)], [], [], [], [], [], [], none), [(0, 0, 99996), (1, 3, 4), (0, 0, 99969)])]) (ss := []) (K := 3) (fuel := 4000) wd_fl2_ok rfl (List.forall_mem_cons.mpr ⟨kh_1033_ok, (List.forall_mem_nil _)⟩) (by decide +kernel)
/- UtilityWorks$Sky strikes -/
def kh_1035 : ct_T := (118, [(2, 794, 794, 1), (2, 8, 8, 1), (0, 0, 4, 1)], [], [], [(1, (0, 1, 1, 0), [(2, 794, 794, 1), (2, 8, 8, 1), (0, 0, 4, 1)], [], ([], [])), (1, (0, 0, 0, 0), [(2, 794, 794, 1), (2, 8, 8, 1), (0, 0, 4, 1)], [], ([], []))], [], 3, 86, 0)
theorem kh_1035_ok : ct_ok wd_fl2 kh_1035 := ct_of (ff := wd_ff2) (y := (⟨"UtilityWorks$Sky", "strikes", "(LUtilityWorks$Grid;I)Z"⟩, prog_8_method_13_code, 4, some .boolean, 6, 1, 2, 26077, 26076, 1014, 21013)) (Cs := [kh_1034]) (an := [(31, 0, ([((2, 794, 794, 1), none), ((2, 8, 8, 1), none), ((0, 0, 4, 1), none), ((0, 0, 9, 1), none)], [(0, 0), (1, 1), (2, 2), (3, 3)], [], [], [], [], [], [], none), [(0, 0, 99969)])]) (ss := []) (K := 1) (fuel := 4000) wd_fl2_ok rfl (List.forall_mem_cons.mpr ⟨kh_1034_ok, (List.forall_mem_nil _)⟩) (by decide +kernel)
/- UtilityWorks$Sky isOver -/
def kh_1036 : ct_T := (120, [(2, 794, 794, 1), (0, 0, 3, 1), (0, 1, 5, 1)], [], [], [(1, (0, 1, 1, 0), [(2, 794, 794, 1), (0, 0, 3, 1), (0, 1, 5, 1)], [], ([], [])), (1, (0, 0, 0, 0), [(2, 794, 794, 1), (0, 0, 3, 1), (0, 1, 5, 1)], [], ([], []))], [], 1, 40, 0)
theorem kh_1036_ok : ct_ok wd_fl2 kh_1036 := ct_of (ff := wd_ff2) (y := (⟨"UtilityWorks$Sky", "isOver", "(II)Z"⟩, prog_8_method_11_code, 4, some .boolean, 6, 1, 2, 26085, 26084, 1015, 21013)) (Cs := []) (an := [(41, 0, ([((2, 794, 794, 1), none), ((0, 0, 3, 1), none), ((0, 1, 5, 1), none), ((2, 796, 799, 1), none)], [(0, 0), (1, 1), (2, 2), (3, 3)], [], [], [], [], [], [], none), [(0, 0, 99959)])]) (ss := []) (K := 1) (fuel := 4000) wd_fl2_ok rfl (List.forall_mem_nil _) (by decide +kernel)
/- UtilityWorks$Sky countBroken -/
def kh_1037 : ct_T := (121, [(2, 794, 794, 1), (0, 0, 3, 1)], [], [], [(0, (0, 0, 0, 0), [(2, 794, 794, 1), (0, 0, 3, 1)], [], ([], []))], [((796, 799), (3, 3, 0)), ((800, 800), (0, 0, 0))], 2, 63, 0)
theorem kh_1037_ok : ct_ok wd_fl2 kh_1037 := ct_of (ff := wd_ff2) (y := (⟨"UtilityWorks$Sky", "countBroken", "(I)V"⟩, prog_8_method_16_code, 3, none, 6, 1, 1, 26091, 26090, 2000, 21013)) (Cs := [kh_1033, kh_1036]) (an := [(12, 0, ([((2, 794, 794, 1), none), ((0, 0, 3, 1), none), ((0, 0, 4, 1), none)], [(0, 0), (1, 1), (2, 2)], [], [], [], [], [], [], none), [(0, 0, 99988), (1, 2, 4), (0, 0, 99988)]), (43, 0, ([((2, 794, 794, 1), none), ((0, 0, 3, 1), none), ((0, 0, 3, 1), none)], [(0, 0), (1, 1), (2, 2)], [], [], [], [], [], [], none), [(0, 0, 99988), (1, 2, 4), (0, 0, 99957)]), (55, 0, ([((2, 794, 794, 1), none), ((0, 0, 3, 1), none), ((0, 0, 3, 1), none)], [(0, 0), (1, 1), (2, 2)], [], [], [], [], [], [], none), [(0, 0, 99988), (1, 2, 4), (0, 0, 99945)])]) (ss := []) (K := 3) (fuel := 4000) wd_fl2_ok rfl (List.forall_mem_cons.mpr ⟨kh_1033_ok, (List.forall_mem_cons.mpr ⟨kh_1036_ok, (List.forall_mem_nil _)⟩)⟩) (by decide +kernel)
/- UtilityWorks$Sky forceAt -/
def kh_1038 : ct_T := (119, [(2, 794, 794, 1), (0, 1, 5, 1)], [], [], [(1, (0, 0, 9, 1), [(2, 794, 794, 1), (0, 1, 5, 1)], [], ([], []))], [], 2, 63, 0)
theorem kh_1038_ok : ct_ok wd_fl2 kh_1038 := ct_of (ff := wd_ff2) (y := (⟨"UtilityWorks$Sky", "forceAt", "(I)I"⟩, prog_8_method_12_code, 4, some .int, 6, 1, 1, 26081, 26079, 26080, 21013)) (Cs := [kh_1036]) (an := [(4, 0, ([((2, 794, 794, 1), none), ((0, 1, 5, 1), none), ((0, (-1), 9, 1), none), ((0, 0, 4, 1), none)], [(0, 0), (1, 1), (2, 2), (3, 3)], [], [], [], [], [], [], none), [(0, 0, 99996), (1, 3, 4), (0, 0, 99996)]), (31, 0, ([((2, 794, 794, 1), none), ((0, 1, 5, 1), none), ((0, (-1), 9, 1), none), ((0, 0, 3, 1), none)], [(0, 0), (1, 1), (2, 2), (3, 3)], [], [], [], [], [], [], none), [(0, 0, 99996), (1, 3, 4), (0, 0, 99969)])]) (ss := []) (K := 3) (fuel := 4000) wd_fl2_ok rfl (List.forall_mem_cons.mpr ⟨kh_1036_ok, (List.forall_mem_nil _)⟩) (by decide +kernel)
/- UtilityWorks$Sky strikes -/
def kh_1039 : ct_T := (118, [(2, 794, 794, 1), (2, 8, 8, 1), (0, 1, 5, 1)], [], [], [(1, (0, 1, 1, 0), [(2, 794, 794, 1), (2, 8, 8, 1), (0, 1, 5, 1)], [], ([], [])), (1, (0, 0, 0, 0), [(2, 794, 794, 1), (2, 8, 8, 1), (0, 1, 5, 1)], [], ([], []))], [], 3, 86, 0)
theorem kh_1039_ok : ct_ok wd_fl2 kh_1039 := ct_of (ff := wd_ff2) (y := (⟨"UtilityWorks$Sky", "strikes", "(LUtilityWorks$Grid;I)Z"⟩, prog_8_method_13_code, 4, some .boolean, 6, 1, 2, 26077, 26076, 1014, 21013)) (Cs := [kh_1038]) (an := [(31, 0, ([((2, 794, 794, 1), none), ((2, 8, 8, 1), none), ((0, 1, 5, 1), none), ((0, 0, 9, 1), none)], [(0, 0), (1, 1), (2, 2), (3, 3)], [], [], [], [], [], [], none), [(0, 0, 99969)])]) (ss := []) (K := 1) (fuel := 4000) wd_fl2_ok rfl (List.forall_mem_cons.mpr ⟨kh_1038_ok, (List.forall_mem_nil _)⟩) (by decide +kernel)
/- UtilityWorks$Grid linkOf -/
def kh_1040 : ct_T := (30, [(2, 8, 8, 1), (0, 0, 0, 0), (0, 0, 4, 1)], [], [], [(1, (2, 10, 14, 1), [(2, 8, 8, 1), (0, 0, 0, 0), (0, 0, 4, 1)], [], ([], []))], [], 0, 0, 0)
theorem kh_1040_ok : ct_ok wd_fl2 kh_1040 := ct_of (ff := wd_ff2) (y := (⟨"UtilityWorks$Grid", "linkOf", "(II)[I"⟩, prog_5_method_3_code, 3, some (.array .int), 3, 1, 2, 24035, 24033, 24034, 21004)) (Cs := []) (an := []) (ss := []) (K := 1) (fuel := 4000) wd_fl2_ok rfl (List.forall_mem_nil _) (by decide +kernel)
/- UtilityWorks$Grid isUnder -/
def kh_1041 : ct_T := (122, [(2, 8, 8, 1), (0, 0, 4, 1), (0, 0, 9, 1)], [], [], [(1, (0, 1, 1, 0), [(2, 8, 8, 1), (0, 0, 4, 1), (0, 0, 9, 1)], [], ([], [])), (1, (0, 0, 0, 0), [(2, 8, 8, 1), (0, 0, 4, 1), (0, 0, 9, 1)], [], ([], []))], [], 0, 0, 0)
theorem kh_1041_ok : ct_ok wd_fl2 kh_1041 := ct_of (ff := wd_ff2) (y := (⟨"UtilityWorks$Grid", "isUnder", "(II)Z"⟩, prog_5_method_23_code, 3, some .boolean, 3, 1, 2, 26095, 26093, 26094, 21004)) (Cs := []) (an := [(36, 0, ([((2, 8, 8, 1), none), ((0, 0, 4, 1), none), ((0, 0, 9, 1), none)], [(0, 0), (1, 1), (2, 2)], [], [], [], [], [], [], none), [(0, 0, 99964)])]) (ss := []) (K := 1) (fuel := 4000) wd_fl2_ok rfl (List.forall_mem_nil _) (by decide +kernel)
/- UtilityWorks$Sky isOver -/
def kh_1042 : ct_T := (120, [(2, 794, 794, 1), (0, 0, 3, 1), (0, 0, 5, 1)], [], [], [(1, (0, 1, 1, 0), [(2, 794, 794, 1), (0, 0, 3, 1), (0, 0, 5, 1)], [], ([], [])), (1, (0, 0, 0, 0), [(2, 794, 794, 1), (0, 0, 3, 1), (0, 0, 5, 1)], [], ([], []))], [], 1, 40, 0)
theorem kh_1042_ok : ct_ok wd_fl2 kh_1042 := ct_of (ff := wd_ff2) (y := (⟨"UtilityWorks$Sky", "isOver", "(II)Z"⟩, prog_8_method_11_code, 4, some .boolean, 6, 1, 2, 26085, 26084, 1015, 21013)) (Cs := []) (an := [(41, 0, ([((2, 794, 794, 1), none), ((0, 0, 3, 1), none), ((0, 0, 5, 1), none), ((2, 796, 799, 1), none)], [(0, 0), (1, 1), (2, 2), (3, 3)], [], [], [], [], [], [], none), [(0, 0, 99959)])]) (ss := []) (K := 1) (fuel := 4000) wd_fl2_ok rfl (List.forall_mem_nil _) (by decide +kernel)
/- UtilityWorks$Sky forceAt -/
def kh_1043 : ct_T := (119, [(2, 794, 794, 1), (0, 0, 5, 1)], [], [], [(1, (0, 0, 9, 1), [(2, 794, 794, 1), (0, 0, 5, 1)], [], ([], []))], [], 2, 63, 0)
theorem kh_1043_ok : ct_ok wd_fl2 kh_1043 := ct_of (ff := wd_ff2) (y := (⟨"UtilityWorks$Sky", "forceAt", "(I)I"⟩, prog_8_method_12_code, 4, some .int, 6, 1, 1, 26081, 26079, 26080, 21013)) (Cs := [kh_1042]) (an := [(4, 0, ([((2, 794, 794, 1), none), ((0, 0, 5, 1), none), ((0, (-1), 9, 1), none), ((0, 0, 4, 1), none)], [(0, 0), (1, 1), (2, 2), (3, 3)], [], [], [], [], [], [], none), [(0, 0, 99996), (1, 3, 4), (0, 0, 99996)]), (31, 0, ([((2, 794, 794, 1), none), ((0, 0, 5, 1), none), ((0, (-1), 9, 1), none), ((0, 0, 3, 1), none)], [(0, 0), (1, 1), (2, 2), (3, 3)], [], [], [], [], [], [], none), [(0, 0, 99996), (1, 3, 4), (0, 0, 99969)])]) (ss := []) (K := 3) (fuel := 4000) wd_fl2_ok rfl (List.forall_mem_cons.mpr ⟨kh_1042_ok, (List.forall_mem_nil _)⟩) (by decide +kernel)
/- UtilityWorks$Sky strikes -/
def kh_1044 : ct_T := (118, [(2, 794, 794, 1), (2, 8, 8, 1), (0, 0, 5, 1)], [], [], [(1, (0, 1, 1, 0), [(2, 794, 794, 1), (2, 8, 8, 1), (0, 0, 5, 1)], [], ([], [])), (1, (0, 0, 0, 0), [(2, 794, 794, 1), (2, 8, 8, 1), (0, 0, 5, 1)], [], ([], []))], [], 3, 86, 0)
theorem kh_1044_ok : ct_ok wd_fl2 kh_1044 := ct_of (ff := wd_ff2) (y := (⟨"UtilityWorks$Sky", "strikes", "(LUtilityWorks$Grid;I)Z"⟩, prog_8_method_13_code, 4, some .boolean, 6, 1, 2, 26077, 26076, 1014, 21013)) (Cs := [kh_1043]) (an := [(31, 0, ([((2, 794, 794, 1), none), ((2, 8, 8, 1), none), ((0, 0, 5, 1), none), ((0, 0, 9, 1), none)], [(0, 0), (1, 1), (2, 2), (3, 3)], [], [], [], [], [], [], none), [(0, 0, 99969)])]) (ss := []) (K := 1) (fuel := 4000) wd_fl2_ok rfl (List.forall_mem_cons.mpr ⟨kh_1043_ok, (List.forall_mem_nil _)⟩) (by decide +kernel)
/- UtilityWorks$Sky isOver -/
def kh_1045 : ct_T := (120, [(2, 794, 794, 1), (0, 0, 3, 1), (0, 1, 6, 1)], [], [], [(1, (0, 1, 1, 0), [(2, 794, 794, 1), (0, 0, 3, 1), (0, 1, 6, 1)], [], ([], [])), (1, (0, 0, 0, 0), [(2, 794, 794, 1), (0, 0, 3, 1), (0, 1, 6, 1)], [], ([], []))], [], 1, 40, 0)
theorem kh_1045_ok : ct_ok wd_fl2 kh_1045 := ct_of (ff := wd_ff2) (y := (⟨"UtilityWorks$Sky", "isOver", "(II)Z"⟩, prog_8_method_11_code, 4, some .boolean, 6, 1, 2, 26085, 26084, 1015, 21013)) (Cs := []) (an := [(41, 0, ([((2, 794, 794, 1), none), ((0, 0, 3, 1), none), ((0, 1, 6, 1), none), ((2, 796, 799, 1), none)], [(0, 0), (1, 1), (2, 2), (3, 3)], [], [], [], [], [], [], none), [(0, 0, 99959)])]) (ss := []) (K := 1) (fuel := 4000) wd_fl2_ok rfl (List.forall_mem_nil _) (by decide +kernel)
/- UtilityWorks$Sky countBroken -/
def kh_1046 : ct_T := (121, [(2, 794, 794, 1), (0, 0, 4, 1)], [], [], [(0, (0, 0, 0, 0), [(2, 794, 794, 1), (0, 0, 4, 1)], [], ([], []))], [((796, 799), (3, 3, 0)), ((800, 800), (0, 0, 0))], 2, 63, 0)
theorem kh_1046_ok : ct_ok wd_fl2 kh_1046 := ct_of (ff := wd_ff2) (y := (⟨"UtilityWorks$Sky", "countBroken", "(I)V"⟩, prog_8_method_16_code, 3, none, 6, 1, 1, 26091, 26090, 2000, 21013)) (Cs := [kh_1042, kh_1045]) (an := [(12, 0, ([((2, 794, 794, 1), none), ((0, 0, 4, 1), none), ((0, 0, 4, 1), none)], [(0, 0), (1, 1), (2, 2)], [], [], [], [], [], [], none), [(0, 0, 99988), (1, 2, 4), (0, 0, 99988)]), (43, 0, ([((2, 794, 794, 1), none), ((0, 0, 4, 1), none), ((0, 0, 3, 1), none)], [(0, 0), (1, 1), (2, 2)], [], [], [], [], [], [], none), [(0, 0, 99988), (1, 2, 4), (0, 0, 99957)]), (55, 0, ([((2, 794, 794, 1), none), ((0, 0, 4, 1), none), ((0, 0, 3, 1), none)], [(0, 0), (1, 1), (2, 2)], [], [], [], [], [], [], none), [(0, 0, 99988), (1, 2, 4), (0, 0, 99945)])]) (ss := []) (K := 3) (fuel := 4000) wd_fl2_ok rfl (List.forall_mem_cons.mpr ⟨kh_1042_ok, (List.forall_mem_cons.mpr ⟨kh_1045_ok, (List.forall_mem_nil _)⟩)⟩) (by decide +kernel)
/- UtilityWorks$Sky forceAt -/
def kh_1047 : ct_T := (119, [(2, 794, 794, 1), (0, 1, 6, 1)], [], [], [(1, (0, 0, 9, 1), [(2, 794, 794, 1), (0, 1, 6, 1)], [], ([], []))], [], 2, 63, 0)
theorem kh_1047_ok : ct_ok wd_fl2 kh_1047 := ct_of (ff := wd_ff2) (y := (⟨"UtilityWorks$Sky", "forceAt", "(I)I"⟩, prog_8_method_12_code, 4, some .int, 6, 1, 1, 26081, 26079, 26080, 21013)) (Cs := [kh_1045]) (an := [(4, 0, ([((2, 794, 794, 1), none), ((0, 1, 6, 1), none), ((0, (-1), 9, 1), none), ((0, 0, 4, 1), none)], [(0, 0), (1, 1), (2, 2), (3, 3)], [], [], [], [], [], [], none), [(0, 0, 99996), (1, 3, 4), (0, 0, 99996)]), (31, 0, ([((2, 794, 794, 1), none), ((0, 1, 6, 1), none), ((0, (-1), 9, 1), none), ((0, 0, 3, 1), none)], [(0, 0), (1, 1), (2, 2), (3, 3)], [], [], [], [], [], [], none), [(0, 0, 99996), (1, 3, 4), (0, 0, 99969)])]) (ss := []) (K := 3) (fuel := 4000) wd_fl2_ok rfl (List.forall_mem_cons.mpr ⟨kh_1045_ok, (List.forall_mem_nil _)⟩) (by decide +kernel)
/- UtilityWorks$Sky strikes -/
def kh_1048 : ct_T := (118, [(2, 794, 794, 1), (2, 8, 8, 1), (0, 1, 6, 1)], [], [], [(1, (0, 1, 1, 0), [(2, 794, 794, 1), (2, 8, 8, 1), (0, 1, 6, 1)], [], ([], [])), (1, (0, 0, 0, 0), [(2, 794, 794, 1), (2, 8, 8, 1), (0, 1, 6, 1)], [], ([], []))], [], 3, 86, 0)
theorem kh_1048_ok : ct_ok wd_fl2 kh_1048 := ct_of (ff := wd_ff2) (y := (⟨"UtilityWorks$Sky", "strikes", "(LUtilityWorks$Grid;I)Z"⟩, prog_8_method_13_code, 4, some .boolean, 6, 1, 2, 26077, 26076, 1014, 21013)) (Cs := [kh_1047]) (an := [(31, 0, ([((2, 794, 794, 1), none), ((2, 8, 8, 1), none), ((0, 1, 6, 1), none), ((0, 0, 9, 1), none)], [(0, 0), (1, 1), (2, 2), (3, 3)], [], [], [], [], [], [], none), [(0, 0, 99969)])]) (ss := []) (K := 1) (fuel := 4000) wd_fl2_ok rfl (List.forall_mem_cons.mpr ⟨kh_1047_ok, (List.forall_mem_nil _)⟩) (by decide +kernel)
/- UtilityWorks$Grid linkOf -/
def kh_1049 : ct_T := (30, [(2, 8, 8, 1), (0, 0, 0, 0), (0, 0, 5, 1)], [], [], [(1, (2, 10, 15, 1), [(2, 8, 8, 1), (0, 0, 0, 0), (0, 0, 5, 1)], [], ([], []))], [], 0, 0, 0)
theorem kh_1049_ok : ct_ok wd_fl2 kh_1049 := ct_of (ff := wd_ff2) (y := (⟨"UtilityWorks$Grid", "linkOf", "(II)[I"⟩, prog_5_method_3_code, 3, some (.array .int), 3, 1, 2, 24035, 24033, 24034, 21004)) (Cs := []) (an := []) (ss := []) (K := 1) (fuel := 4000) wd_fl2_ok rfl (List.forall_mem_nil _) (by decide +kernel)
/- UtilityWorks$Grid isUnder -/
def kh_1050 : ct_T := (122, [(2, 8, 8, 1), (0, 0, 5, 1), (0, 0, 9, 1)], [], [], [(1, (0, 1, 1, 0), [(2, 8, 8, 1), (0, 0, 5, 1), (0, 0, 9, 1)], [], ([], [])), (1, (0, 0, 0, 0), [(2, 8, 8, 1), (0, 0, 5, 1), (0, 0, 9, 1)], [], ([], []))], [], 0, 0, 0)
theorem kh_1050_ok : ct_ok wd_fl2 kh_1050 := ct_of (ff := wd_ff2) (y := (⟨"UtilityWorks$Grid", "isUnder", "(II)Z"⟩, prog_5_method_23_code, 3, some .boolean, 3, 1, 2, 26095, 26093, 26094, 21004)) (Cs := []) (an := [(36, 0, ([((2, 8, 8, 1), none), ((0, 0, 5, 1), none), ((0, 0, 9, 1), none)], [(0, 0), (1, 1), (2, 2)], [], [], [], [], [], [], none), [(0, 0, 99964)])]) (ss := []) (K := 1) (fuel := 4000) wd_fl2_ok rfl (List.forall_mem_nil _) (by decide +kernel)
/- UtilityWorks$Sky isOver -/
def kh_1051 : ct_T := (120, [(2, 794, 794, 1), (0, 0, 3, 1), (0, 0, 6, 1)], [], [], [(1, (0, 1, 1, 0), [(2, 794, 794, 1), (0, 0, 3, 1), (0, 0, 6, 1)], [], ([], [])), (1, (0, 0, 0, 0), [(2, 794, 794, 1), (0, 0, 3, 1), (0, 0, 6, 1)], [], ([], []))], [], 1, 40, 0)
theorem kh_1051_ok : ct_ok wd_fl2 kh_1051 := ct_of (ff := wd_ff2) (y := (⟨"UtilityWorks$Sky", "isOver", "(II)Z"⟩, prog_8_method_11_code, 4, some .boolean, 6, 1, 2, 26085, 26084, 1015, 21013)) (Cs := []) (an := [(41, 0, ([((2, 794, 794, 1), none), ((0, 0, 3, 1), none), ((0, 0, 6, 1), none), ((2, 796, 799, 1), none)], [(0, 0), (1, 1), (2, 2), (3, 3)], [], [], [], [], [], [], none), [(0, 0, 99959)])]) (ss := []) (K := 1) (fuel := 4000) wd_fl2_ok rfl (List.forall_mem_nil _) (by decide +kernel)
/- UtilityWorks$Sky forceAt -/
def kh_1052 : ct_T := (119, [(2, 794, 794, 1), (0, 0, 6, 1)], [], [], [(1, (0, 0, 9, 1), [(2, 794, 794, 1), (0, 0, 6, 1)], [], ([], []))], [], 2, 63, 0)
theorem kh_1052_ok : ct_ok wd_fl2 kh_1052 := ct_of (ff := wd_ff2) (y := (⟨"UtilityWorks$Sky", "forceAt", "(I)I"⟩, prog_8_method_12_code, 4, some .int, 6, 1, 1, 26081, 26079, 26080, 21013)) (Cs := [kh_1051]) (an := [(4, 0, ([((2, 794, 794, 1), none), ((0, 0, 6, 1), none), ((0, (-1), 9, 1), none), ((0, 0, 4, 1), none)], [(0, 0), (1, 1), (2, 2), (3, 3)], [], [], [], [], [], [], none), [(0, 0, 99996), (1, 3, 4), (0, 0, 99996)]), (31, 0, ([((2, 794, 794, 1), none), ((0, 0, 6, 1), none), ((0, (-1), 9, 1), none), ((0, 0, 3, 1), none)], [(0, 0), (1, 1), (2, 2), (3, 3)], [], [], [], [], [], [], none), [(0, 0, 99996), (1, 3, 4), (0, 0, 99969)])]) (ss := []) (K := 3) (fuel := 4000) wd_fl2_ok rfl (List.forall_mem_cons.mpr ⟨kh_1051_ok, (List.forall_mem_nil _)⟩) (by decide +kernel)
/- UtilityWorks$Sky strikes -/
def kh_1053 : ct_T := (118, [(2, 794, 794, 1), (2, 8, 8, 1), (0, 0, 6, 1)], [], [], [(1, (0, 1, 1, 0), [(2, 794, 794, 1), (2, 8, 8, 1), (0, 0, 6, 1)], [], ([], [])), (1, (0, 0, 0, 0), [(2, 794, 794, 1), (2, 8, 8, 1), (0, 0, 6, 1)], [], ([], []))], [], 3, 86, 0)
theorem kh_1053_ok : ct_ok wd_fl2 kh_1053 := ct_of (ff := wd_ff2) (y := (⟨"UtilityWorks$Sky", "strikes", "(LUtilityWorks$Grid;I)Z"⟩, prog_8_method_13_code, 4, some .boolean, 6, 1, 2, 26077, 26076, 1014, 21013)) (Cs := [kh_1052]) (an := [(31, 0, ([((2, 794, 794, 1), none), ((2, 8, 8, 1), none), ((0, 0, 6, 1), none), ((0, 0, 9, 1), none)], [(0, 0), (1, 1), (2, 2), (3, 3)], [], [], [], [], [], [], none), [(0, 0, 99969)])]) (ss := []) (K := 1) (fuel := 4000) wd_fl2_ok rfl (List.forall_mem_cons.mpr ⟨kh_1052_ok, (List.forall_mem_nil _)⟩) (by decide +kernel)
/- UtilityWorks$Sky isOver -/
def kh_1054 : ct_T := (120, [(2, 794, 794, 1), (0, 0, 3, 1), (0, 1, 7, 1)], [], [], [(1, (0, 1, 1, 0), [(2, 794, 794, 1), (0, 0, 3, 1), (0, 1, 7, 1)], [], ([], [])), (1, (0, 0, 0, 0), [(2, 794, 794, 1), (0, 0, 3, 1), (0, 1, 7, 1)], [], ([], []))], [], 1, 40, 0)
theorem kh_1054_ok : ct_ok wd_fl2 kh_1054 := ct_of (ff := wd_ff2) (y := (⟨"UtilityWorks$Sky", "isOver", "(II)Z"⟩, prog_8_method_11_code, 4, some .boolean, 6, 1, 2, 26085, 26084, 1015, 21013)) (Cs := []) (an := [(41, 0, ([((2, 794, 794, 1), none), ((0, 0, 3, 1), none), ((0, 1, 7, 1), none), ((2, 796, 799, 1), none)], [(0, 0), (1, 1), (2, 2), (3, 3)], [], [], [], [], [], [], none), [(0, 0, 99959)])]) (ss := []) (K := 1) (fuel := 4000) wd_fl2_ok rfl (List.forall_mem_nil _) (by decide +kernel)
/- UtilityWorks$Sky countBroken -/
def kh_1055 : ct_T := (121, [(2, 794, 794, 1), (0, 0, 5, 1)], [], [], [(0, (0, 0, 0, 0), [(2, 794, 794, 1), (0, 0, 5, 1)], [], ([], []))], [((796, 799), (3, 3, 0)), ((800, 800), (0, 0, 0))], 2, 63, 0)
theorem kh_1055_ok : ct_ok wd_fl2 kh_1055 := ct_of (ff := wd_ff2) (y := (⟨"UtilityWorks$Sky", "countBroken", "(I)V"⟩, prog_8_method_16_code, 3, none, 6, 1, 1, 26091, 26090, 2000, 21013)) (Cs := [kh_1051, kh_1054]) (an := [(12, 0, ([((2, 794, 794, 1), none), ((0, 0, 5, 1), none), ((0, 0, 4, 1), none)], [(0, 0), (1, 1), (2, 2)], [], [], [], [], [], [], none), [(0, 0, 99988), (1, 2, 4), (0, 0, 99988)]), (43, 0, ([((2, 794, 794, 1), none), ((0, 0, 5, 1), none), ((0, 0, 3, 1), none)], [(0, 0), (1, 1), (2, 2)], [], [], [], [], [], [], none), [(0, 0, 99988), (1, 2, 4), (0, 0, 99957)]), (55, 0, ([((2, 794, 794, 1), none), ((0, 0, 5, 1), none), ((0, 0, 3, 1), none)], [(0, 0), (1, 1), (2, 2)], [], [], [], [], [], [], none), [(0, 0, 99988), (1, 2, 4), (0, 0, 99945)])]) (ss := []) (K := 3) (fuel := 4000) wd_fl2_ok rfl (List.forall_mem_cons.mpr ⟨kh_1051_ok, (List.forall_mem_cons.mpr ⟨kh_1054_ok, (List.forall_mem_nil _)⟩)⟩) (by decide +kernel)
/- UtilityWorks$Sky forceAt -/
def kh_1056 : ct_T := (119, [(2, 794, 794, 1), (0, 1, 7, 1)], [], [], [(1, (0, 0, 9, 1), [(2, 794, 794, 1), (0, 1, 7, 1)], [], ([], []))], [], 2, 63, 0)
theorem kh_1056_ok : ct_ok wd_fl2 kh_1056 := ct_of (ff := wd_ff2) (y := (⟨"UtilityWorks$Sky", "forceAt", "(I)I"⟩, prog_8_method_12_code, 4, some .int, 6, 1, 1, 26081, 26079, 26080, 21013)) (Cs := [kh_1054]) (an := [(4, 0, ([((2, 794, 794, 1), none), ((0, 1, 7, 1), none), ((0, (-1), 9, 1), none), ((0, 0, 4, 1), none)], [(0, 0), (1, 1), (2, 2), (3, 3)], [], [], [], [], [], [], none), [(0, 0, 99996), (1, 3, 4), (0, 0, 99996)]), (31, 0, ([((2, 794, 794, 1), none), ((0, 1, 7, 1), none), ((0, (-1), 9, 1), none), ((0, 0, 3, 1), none)], [(0, 0), (1, 1), (2, 2), (3, 3)], [], [], [], [], [], [], none), [(0, 0, 99996), (1, 3, 4), (0, 0, 99969)])]) (ss := []) (K := 3) (fuel := 4000) wd_fl2_ok rfl (List.forall_mem_cons.mpr ⟨kh_1054_ok, (List.forall_mem_nil _)⟩) (by decide +kernel)
/- UtilityWorks$Sky strikes -/
def kh_1057 : ct_T := (118, [(2, 794, 794, 1), (2, 8, 8, 1), (0, 1, 7, 1)], [], [], [(1, (0, 1, 1, 0), [(2, 794, 794, 1), (2, 8, 8, 1), (0, 1, 7, 1)], [], ([], [])), (1, (0, 0, 0, 0), [(2, 794, 794, 1), (2, 8, 8, 1), (0, 1, 7, 1)], [], ([], []))], [], 3, 86, 0)
theorem kh_1057_ok : ct_ok wd_fl2 kh_1057 := ct_of (ff := wd_ff2) (y := (⟨"UtilityWorks$Sky", "strikes", "(LUtilityWorks$Grid;I)Z"⟩, prog_8_method_13_code, 4, some .boolean, 6, 1, 2, 26077, 26076, 1014, 21013)) (Cs := [kh_1056]) (an := [(31, 0, ([((2, 794, 794, 1), none), ((2, 8, 8, 1), none), ((0, 1, 7, 1), none), ((0, 0, 9, 1), none)], [(0, 0), (1, 1), (2, 2), (3, 3)], [], [], [], [], [], [], none), [(0, 0, 99969)])]) (ss := []) (K := 1) (fuel := 4000) wd_fl2_ok rfl (List.forall_mem_cons.mpr ⟨kh_1056_ok, (List.forall_mem_nil _)⟩) (by decide +kernel)
/- UtilityWorks$Grid linkOf -/
def kh_1058 : ct_T := (30, [(2, 8, 8, 1), (0, 0, 0, 0), (0, 0, 6, 1)], [], [], [(1, (2, 10, 16, 1), [(2, 8, 8, 1), (0, 0, 0, 0), (0, 0, 6, 1)], [], ([], []))], [], 0, 0, 0)
theorem kh_1058_ok : ct_ok wd_fl2 kh_1058 := ct_of (ff := wd_ff2) (y := (⟨"UtilityWorks$Grid", "linkOf", "(II)[I"⟩, prog_5_method_3_code, 3, some (.array .int), 3, 1, 2, 24035, 24033, 24034, 21004)) (Cs := []) (an := []) (ss := []) (K := 1) (fuel := 4000) wd_fl2_ok rfl (List.forall_mem_nil _) (by decide +kernel)
/- UtilityWorks$Grid isUnder -/
def kh_1059 : ct_T := (122, [(2, 8, 8, 1), (0, 0, 6, 1), (0, 0, 9, 1)], [], [], [(1, (0, 1, 1, 0), [(2, 8, 8, 1), (0, 0, 6, 1), (0, 0, 9, 1)], [], ([], [])), (1, (0, 0, 0, 0), [(2, 8, 8, 1), (0, 0, 6, 1), (0, 0, 9, 1)], [], ([], []))], [], 0, 0, 0)
theorem kh_1059_ok : ct_ok wd_fl2 kh_1059 := ct_of (ff := wd_ff2) (y := (⟨"UtilityWorks$Grid", "isUnder", "(II)Z"⟩, prog_5_method_23_code, 3, some .boolean, 3, 1, 2, 26095, 26093, 26094, 21004)) (Cs := []) (an := [(36, 0, ([((2, 8, 8, 1), none), ((0, 0, 6, 1), none), ((0, 0, 9, 1), none)], [(0, 0), (1, 1), (2, 2)], [], [], [], [], [], [], none), [(0, 0, 99964)])]) (ss := []) (K := 1) (fuel := 4000) wd_fl2_ok rfl (List.forall_mem_nil _) (by decide +kernel)
/- UtilityWorks$Sky isOver -/
def kh_1060 : ct_T := (120, [(2, 794, 794, 1), (0, 0, 3, 1), (0, 0, 8, 1)], [], [], [(1, (0, 1, 1, 0), [(2, 794, 794, 1), (0, 0, 3, 1), (0, 0, 8, 1)], [], ([], [])), (1, (0, 0, 0, 0), [(2, 794, 794, 1), (0, 0, 3, 1), (0, 0, 8, 1)], [], ([], []))], [], 1, 40, 0)
theorem kh_1060_ok : ct_ok wd_fl2 kh_1060 := ct_of (ff := wd_ff2) (y := (⟨"UtilityWorks$Sky", "isOver", "(II)Z"⟩, prog_8_method_11_code, 4, some .boolean, 6, 1, 2, 26085, 26084, 1015, 21013)) (Cs := []) (an := [(41, 0, ([((2, 794, 794, 1), none), ((0, 0, 3, 1), none), ((0, 0, 8, 1), none), ((2, 796, 799, 1), none)], [(0, 0), (1, 1), (2, 2), (3, 3)], [], [], [], [], [], [], none), [(0, 0, 99959)])]) (ss := []) (K := 1) (fuel := 4000) wd_fl2_ok rfl (List.forall_mem_nil _) (by decide +kernel)
/- UtilityWorks$Sky forceAt -/
def kh_1061 : ct_T := (119, [(2, 794, 794, 1), (0, 0, 8, 1)], [], [], [(1, (0, 0, 9, 1), [(2, 794, 794, 1), (0, 0, 8, 1)], [], ([], []))], [], 2, 63, 0)
theorem kh_1061_ok : ct_ok wd_fl2 kh_1061 := ct_of (ff := wd_ff2) (y := (⟨"UtilityWorks$Sky", "forceAt", "(I)I"⟩, prog_8_method_12_code, 4, some .int, 6, 1, 1, 26081, 26079, 26080, 21013)) (Cs := [kh_1060]) (an := [(4, 0, ([((2, 794, 794, 1), none), ((0, 0, 8, 1), none), ((0, (-1), 9, 1), none), ((0, 0, 4, 1), none)], [(0, 0), (1, 1), (2, 2), (3, 3)], [], [], [], [], [], [], none), [(0, 0, 99996), (1, 3, 4), (0, 0, 99996)]), (31, 0, ([((2, 794, 794, 1), none), ((0, 0, 8, 1), none), ((0, (-1), 9, 1), none), ((0, 0, 3, 1), none)], [(0, 0), (1, 1), (2, 2), (3, 3)], [], [], [], [], [], [], none), [(0, 0, 99996), (1, 3, 4), (0, 0, 99969)])]) (ss := []) (K := 3) (fuel := 4000) wd_fl2_ok rfl (List.forall_mem_cons.mpr ⟨kh_1060_ok, (List.forall_mem_nil _)⟩) (by decide +kernel)
/- UtilityWorks$Sky strikes -/
def kh_1062 : ct_T := (118, [(2, 794, 794, 1), (2, 8, 8, 1), (0, 0, 8, 1)], [], [], [(1, (0, 1, 1, 0), [(2, 794, 794, 1), (2, 8, 8, 1), (0, 0, 8, 1)], [], ([], [])), (1, (0, 0, 0, 0), [(2, 794, 794, 1), (2, 8, 8, 1), (0, 0, 8, 1)], [], ([], []))], [], 3, 86, 0)
theorem kh_1062_ok : ct_ok wd_fl2 kh_1062 := ct_of (ff := wd_ff2) (y := (⟨"UtilityWorks$Sky", "strikes", "(LUtilityWorks$Grid;I)Z"⟩, prog_8_method_13_code, 4, some .boolean, 6, 1, 2, 26077, 26076, 1014, 21013)) (Cs := [kh_1061]) (an := [(31, 0, ([((2, 794, 794, 1), none), ((2, 8, 8, 1), none), ((0, 0, 8, 1), none), ((0, 0, 9, 1), none)], [(0, 0), (1, 1), (2, 2), (3, 3)], [], [], [], [], [], [], none), [(0, 0, 99969)])]) (ss := []) (K := 1) (fuel := 4000) wd_fl2_ok rfl (List.forall_mem_cons.mpr ⟨kh_1061_ok, (List.forall_mem_nil _)⟩) (by decide +kernel)
/- UtilityWorks$Sky isOver -/
def kh_1063 : ct_T := (120, [(2, 794, 794, 1), (0, 0, 3, 1), (0, 1, 9, 1)], [], [], [(1, (0, 1, 1, 0), [(2, 794, 794, 1), (0, 0, 3, 1), (0, 1, 9, 1)], [], ([], [])), (1, (0, 0, 0, 0), [(2, 794, 794, 1), (0, 0, 3, 1), (0, 1, 9, 1)], [], ([], []))], [], 1, 40, 0)
theorem kh_1063_ok : ct_ok wd_fl2 kh_1063 := ct_of (ff := wd_ff2) (y := (⟨"UtilityWorks$Sky", "isOver", "(II)Z"⟩, prog_8_method_11_code, 4, some .boolean, 6, 1, 2, 26085, 26084, 1015, 21013)) (Cs := []) (an := [(41, 0, ([((2, 794, 794, 1), none), ((0, 0, 3, 1), none), ((0, 1, 9, 1), none), ((2, 796, 799, 1), none)], [(0, 0), (1, 1), (2, 2), (3, 3)], [], [], [], [], [], [], none), [(0, 0, 99959)])]) (ss := []) (K := 1) (fuel := 4000) wd_fl2_ok rfl (List.forall_mem_nil _) (by decide +kernel)
/- UtilityWorks$Sky countBroken -/
def kh_1064 : ct_T := (121, [(2, 794, 794, 1), (0, 0, 6, 1)], [], [], [(0, (0, 0, 0, 0), [(2, 794, 794, 1), (0, 0, 6, 1)], [], ([], []))], [((796, 799), (3, 3, 0)), ((800, 800), (0, 0, 0))], 2, 63, 0)
theorem kh_1064_ok : ct_ok wd_fl2 kh_1064 := ct_of (ff := wd_ff2) (y := (⟨"UtilityWorks$Sky", "countBroken", "(I)V"⟩, prog_8_method_16_code, 3, none, 6, 1, 1, 26091, 26090, 2000, 21013)) (Cs := [kh_1060, kh_1063]) (an := [(12, 0, ([((2, 794, 794, 1), none), ((0, 0, 6, 1), none), ((0, 0, 4, 1), none)], [(0, 0), (1, 1), (2, 2)], [], [], [], [], [], [], none), [(0, 0, 99988), (1, 2, 4), (0, 0, 99988)]), (43, 0, ([((2, 794, 794, 1), none), ((0, 0, 6, 1), none), ((0, 0, 3, 1), none)], [(0, 0), (1, 1), (2, 2)], [], [], [], [], [], [], none), [(0, 0, 99988), (1, 2, 4), (0, 0, 99957)]), (55, 0, ([((2, 794, 794, 1), none), ((0, 0, 6, 1), none), ((0, 0, 3, 1), none)], [(0, 0), (1, 1), (2, 2)], [], [], [], [], [], [], none), [(0, 0, 99988), (1, 2, 4), (0, 0, 99945)])]) (ss := []) (K := 3) (fuel := 4000) wd_fl2_ok rfl (List.forall_mem_cons.mpr ⟨kh_1060_ok, (List.forall_mem_cons.mpr ⟨kh_1063_ok, (List.forall_mem_nil _)⟩)⟩) (by decide +kernel)
/- UtilityWorks$Sky forceAt -/
def kh_1065 : ct_T := (119, [(2, 794, 794, 1), (0, 1, 9, 1)], [], [], [(1, (0, 0, 9, 1), [(2, 794, 794, 1), (0, 1, 9, 1)], [], ([], []))], [], 2, 63, 0)
theorem kh_1065_ok : ct_ok wd_fl2 kh_1065 := ct_of (ff := wd_ff2) (y := (⟨"UtilityWorks$Sky", "forceAt", "(I)I"⟩, prog_8_method_12_code, 4, some .int, 6, 1, 1, 26081, 26079, 26080, 21013)) (Cs := [kh_1063]) (an := [(4, 0, ([((2, 794, 794, 1), none), ((0, 1, 9, 1), none), ((0, (-1), 9, 1), none), ((0, 0, 4, 1), none)], [(0, 0), (1, 1), (2, 2), (3, 3)], [], [], [], [], [], [], none), [(0, 0, 99996), (1, 3, 4), (0, 0, 99996)]), (31, 0, ([((2, 794, 794, 1), none), ((0, 1, 9, 1), none), ((0, (-1), 9, 1), none), ((0, 0, 3, 1), none)], [(0, 0), (1, 1), (2, 2), (3, 3)], [], [], [], [], [], [], none), [(0, 0, 99996), (1, 3, 4), (0, 0, 99969)])]) (ss := []) (K := 3) (fuel := 4000) wd_fl2_ok rfl (List.forall_mem_cons.mpr ⟨kh_1063_ok, (List.forall_mem_nil _)⟩) (by decide +kernel)
/- UtilityWorks$Sky strikes -/
def kh_1066 : ct_T := (118, [(2, 794, 794, 1), (2, 8, 8, 1), (0, 1, 9, 1)], [], [], [(1, (0, 1, 1, 0), [(2, 794, 794, 1), (2, 8, 8, 1), (0, 1, 9, 1)], [], ([], [])), (1, (0, 0, 0, 0), [(2, 794, 794, 1), (2, 8, 8, 1), (0, 1, 9, 1)], [], ([], []))], [], 3, 86, 0)
theorem kh_1066_ok : ct_ok wd_fl2 kh_1066 := ct_of (ff := wd_ff2) (y := (⟨"UtilityWorks$Sky", "strikes", "(LUtilityWorks$Grid;I)Z"⟩, prog_8_method_13_code, 4, some .boolean, 6, 1, 2, 26077, 26076, 1014, 21013)) (Cs := [kh_1065]) (an := [(31, 0, ([((2, 794, 794, 1), none), ((2, 8, 8, 1), none), ((0, 1, 9, 1), none), ((0, 0, 9, 1), none)], [(0, 0), (1, 1), (2, 2), (3, 3)], [], [], [], [], [], [], none), [(0, 0, 99969)])]) (ss := []) (K := 1) (fuel := 4000) wd_fl2_ok rfl (List.forall_mem_cons.mpr ⟨kh_1065_ok, (List.forall_mem_nil _)⟩) (by decide +kernel)
/- UtilityWorks$Grid linkOf -/
def kh_1067 : ct_T := (30, [(2, 8, 8, 1), (0, 0, 0, 0), (0, 0, 7, 1)], [], [], [(1, (2, 10, 17, 1), [(2, 8, 8, 1), (0, 0, 0, 0), (0, 0, 7, 1)], [], ([], []))], [], 0, 0, 0)
theorem kh_1067_ok : ct_ok wd_fl2 kh_1067 := ct_of (ff := wd_ff2) (y := (⟨"UtilityWorks$Grid", "linkOf", "(II)[I"⟩, prog_5_method_3_code, 3, some (.array .int), 3, 1, 2, 24035, 24033, 24034, 21004)) (Cs := []) (an := []) (ss := []) (K := 1) (fuel := 4000) wd_fl2_ok rfl (List.forall_mem_nil _) (by decide +kernel)
/- UtilityWorks$Grid isUnder -/
def kh_1068 : ct_T := (122, [(2, 8, 8, 1), (0, 0, 7, 1), (0, 0, 9, 1)], [], [], [(1, (0, 1, 1, 0), [(2, 8, 8, 1), (0, 0, 7, 1), (0, 0, 9, 1)], [], ([], [])), (1, (0, 0, 0, 0), [(2, 8, 8, 1), (0, 0, 7, 1), (0, 0, 9, 1)], [], ([], []))], [], 0, 0, 0)
theorem kh_1068_ok : ct_ok wd_fl2 kh_1068 := ct_of (ff := wd_ff2) (y := (⟨"UtilityWorks$Grid", "isUnder", "(II)Z"⟩, prog_5_method_23_code, 3, some .boolean, 3, 1, 2, 26095, 26093, 26094, 21004)) (Cs := []) (an := [(36, 0, ([((2, 8, 8, 1), none), ((0, 0, 7, 1), none), ((0, 0, 9, 1), none)], [(0, 0), (1, 1), (2, 2)], [], [], [], [], [], [], none), [(0, 0, 99964)])]) (ss := []) (K := 1) (fuel := 4000) wd_fl2_ok rfl (List.forall_mem_nil _) (by decide +kernel)
/- UtilityWorks$Sky isOver -/
def kh_1069 : ct_T := (120, [(2, 794, 794, 1), (0, 0, 3, 1), (0, 0, 9, 1)], [], [], [(1, (0, 1, 1, 0), [(2, 794, 794, 1), (0, 0, 3, 1), (0, 0, 9, 1)], [], ([], [])), (1, (0, 0, 0, 0), [(2, 794, 794, 1), (0, 0, 3, 1), (0, 0, 9, 1)], [], ([], []))], [], 1, 40, 0)
theorem kh_1069_ok : ct_ok wd_fl2 kh_1069 := ct_of (ff := wd_ff2) (y := (⟨"UtilityWorks$Sky", "isOver", "(II)Z"⟩, prog_8_method_11_code, 4, some .boolean, 6, 1, 2, 26085, 26084, 1015, 21013)) (Cs := []) (an := [(41, 0, ([((2, 794, 794, 1), none), ((0, 0, 3, 1), none), ((0, 0, 9, 1), none), ((2, 796, 799, 1), none)], [(0, 0), (1, 1), (2, 2), (3, 3)], [], [], [], [], [], [], none), [(0, 0, 99959)])]) (ss := []) (K := 1) (fuel := 4000) wd_fl2_ok rfl (List.forall_mem_nil _) (by decide +kernel)
/- UtilityWorks$Sky forceAt -/
def kh_1070 : ct_T := (119, [(2, 794, 794, 1), (0, 0, 9, 1)], [], [], [(1, (0, 0, 9, 1), [(2, 794, 794, 1), (0, 0, 9, 1)], [], ([], []))], [], 2, 63, 0)
theorem kh_1070_ok : ct_ok wd_fl2 kh_1070 := ct_of (ff := wd_ff2) (y := (⟨"UtilityWorks$Sky", "forceAt", "(I)I"⟩, prog_8_method_12_code, 4, some .int, 6, 1, 1, 26081, 26079, 26080, 21013)) (Cs := [kh_1069]) (an := [(4, 0, ([((2, 794, 794, 1), none), ((0, 0, 9, 1), none), ((0, (-1), 9, 1), none), ((0, 0, 4, 1), none)], [(0, 0), (1, 1), (2, 2), (3, 3)], [], [], [], [], [], [], none), [(0, 0, 99996), (1, 3, 4), (0, 0, 99996)]), (31, 0, ([((2, 794, 794, 1), none), ((0, 0, 9, 1), none), ((0, (-1), 9, 1), none), ((0, 0, 3, 1), none)], [(0, 0), (1, 1), (2, 2), (3, 3)], [], [], [], [], [], [], none), [(0, 0, 99996), (1, 3, 4), (0, 0, 99969)])]) (ss := []) (K := 3) (fuel := 4000) wd_fl2_ok rfl (List.forall_mem_cons.mpr ⟨kh_1069_ok, (List.forall_mem_nil _)⟩) (by decide +kernel)
/- UtilityWorks$Sky strikes -/
def kh_1071 : ct_T := (118, [(2, 794, 794, 1), (2, 8, 8, 1), (0, 0, 9, 1)], [], [], [(1, (0, 1, 1, 0), [(2, 794, 794, 1), (2, 8, 8, 1), (0, 0, 9, 1)], [], ([], [])), (1, (0, 0, 0, 0), [(2, 794, 794, 1), (2, 8, 8, 1), (0, 0, 9, 1)], [], ([], []))], [], 3, 86, 0)
theorem kh_1071_ok : ct_ok wd_fl2 kh_1071 := ct_of (ff := wd_ff2) (y := (⟨"UtilityWorks$Sky", "strikes", "(LUtilityWorks$Grid;I)Z"⟩, prog_8_method_13_code, 4, some .boolean, 6, 1, 2, 26077, 26076, 1014, 21013)) (Cs := [kh_1070]) (an := [(31, 0, ([((2, 794, 794, 1), none), ((2, 8, 8, 1), none), ((0, 0, 9, 1), none), ((0, 0, 9, 1), none)], [(0, 0), (1, 1), (2, 2), (3, 3)], [], [], [], [], [], [], none), [(0, 0, 99969)])]) (ss := []) (K := 1) (fuel := 4000) wd_fl2_ok rfl (List.forall_mem_cons.mpr ⟨kh_1070_ok, (List.forall_mem_nil _)⟩) (by decide +kernel)
/- UtilityWorks$Sky isOver -/
def kh_1072 : ct_T := (120, [(2, 794, 794, 1), (0, 0, 3, 1), (0, 1, 10, 1)], [], [], [(1, (0, 1, 1, 0), [(2, 794, 794, 1), (0, 0, 3, 1), (0, 1, 10, 1)], [], ([], [])), (1, (0, 0, 0, 0), [(2, 794, 794, 1), (0, 0, 3, 1), (0, 1, 10, 1)], [], ([], []))], [], 1, 40, 0)
theorem kh_1072_ok : ct_ok wd_fl2 kh_1072 := ct_of (ff := wd_ff2) (y := (⟨"UtilityWorks$Sky", "isOver", "(II)Z"⟩, prog_8_method_11_code, 4, some .boolean, 6, 1, 2, 26085, 26084, 1015, 21013)) (Cs := []) (an := [(41, 0, ([((2, 794, 794, 1), none), ((0, 0, 3, 1), none), ((0, 1, 10, 1), none), ((2, 796, 799, 1), none)], [(0, 0), (1, 1), (2, 2), (3, 3)], [], [], [], [], [], [], none), [(0, 0, 99959)])]) (ss := []) (K := 1) (fuel := 4000) wd_fl2_ok rfl (List.forall_mem_nil _) (by decide +kernel)
/- UtilityWorks$Sky countBroken -/
def kh_1073 : ct_T := (121, [(2, 794, 794, 1), (0, 0, 7, 1)], [], [], [(0, (0, 0, 0, 0), [(2, 794, 794, 1), (0, 0, 7, 1)], [], ([], []))], [((796, 799), (3, 3, 0)), ((800, 800), (0, 0, 0))], 2, 63, 0)
theorem kh_1073_ok : ct_ok wd_fl2 kh_1073 := ct_of (ff := wd_ff2) (y := (⟨"UtilityWorks$Sky", "countBroken", "(I)V"⟩, prog_8_method_16_code, 3, none, 6, 1, 1, 26091, 26090, 2000, 21013)) (Cs := [kh_1069, kh_1072]) (an := [(12, 0, ([((2, 794, 794, 1), none), ((0, 0, 7, 1), none), ((0, 0, 4, 1), none)], [(0, 0), (1, 1), (2, 2)], [], [], [], [], [], [], none), [(0, 0, 99988), (1, 2, 4), (0, 0, 99988)]), (43, 0, ([((2, 794, 794, 1), none), ((0, 0, 7, 1), none), ((0, 0, 3, 1), none)], [(0, 0), (1, 1), (2, 2)], [], [], [], [], [], [], none), [(0, 0, 99988), (1, 2, 4), (0, 0, 99957)]), (55, 0, ([((2, 794, 794, 1), none), ((0, 0, 7, 1), none), ((0, 0, 3, 1), none)], [(0, 0), (1, 1), (2, 2)], [], [], [], [], [], [], none), [(0, 0, 99988), (1, 2, 4), (0, 0, 99945)])]) (ss := []) (K := 3) (fuel := 4000) wd_fl2_ok rfl (List.forall_mem_cons.mpr ⟨kh_1069_ok, (List.forall_mem_cons.mpr ⟨kh_1072_ok, (List.forall_mem_nil _)⟩)⟩) (by decide +kernel)
/- UtilityWorks$Sky forceAt -/
def kh_1074 : ct_T := (119, [(2, 794, 794, 1), (0, 1, 10, 1)], [], [], [(1, (0, 0, 9, 1), [(2, 794, 794, 1), (0, 1, 10, 1)], [], ([], []))], [], 2, 63, 0)
theorem kh_1074_ok : ct_ok wd_fl2 kh_1074 := ct_of (ff := wd_ff2) (y := (⟨"UtilityWorks$Sky", "forceAt", "(I)I"⟩, prog_8_method_12_code, 4, some .int, 6, 1, 1, 26081, 26079, 26080, 21013)) (Cs := [kh_1072]) (an := [(4, 0, ([((2, 794, 794, 1), none), ((0, 1, 10, 1), none), ((0, (-1), 9, 1), none), ((0, 0, 4, 1), none)], [(0, 0), (1, 1), (2, 2), (3, 3)], [], [], [], [], [], [], none), [(0, 0, 99996), (1, 3, 4), (0, 0, 99996)]), (31, 0, ([((2, 794, 794, 1), none), ((0, 1, 10, 1), none), ((0, (-1), 9, 1), none), ((0, 0, 3, 1), none)], [(0, 0), (1, 1), (2, 2), (3, 3)], [], [], [], [], [], [], none), [(0, 0, 99996), (1, 3, 4), (0, 0, 99969)])]) (ss := []) (K := 3) (fuel := 4000) wd_fl2_ok rfl (List.forall_mem_cons.mpr ⟨kh_1072_ok, (List.forall_mem_nil _)⟩) (by decide +kernel)
/- UtilityWorks$Sky strikes -/
def kh_1075 : ct_T := (118, [(2, 794, 794, 1), (2, 8, 8, 1), (0, 1, 10, 1)], [], [], [(1, (0, 1, 1, 0), [(2, 794, 794, 1), (2, 8, 8, 1), (0, 1, 10, 1)], [], ([], [])), (1, (0, 0, 0, 0), [(2, 794, 794, 1), (2, 8, 8, 1), (0, 1, 10, 1)], [], ([], []))], [], 3, 86, 0)
theorem kh_1075_ok : ct_ok wd_fl2 kh_1075 := ct_of (ff := wd_ff2) (y := (⟨"UtilityWorks$Sky", "strikes", "(LUtilityWorks$Grid;I)Z"⟩, prog_8_method_13_code, 4, some .boolean, 6, 1, 2, 26077, 26076, 1014, 21013)) (Cs := [kh_1074]) (an := [(31, 0, ([((2, 794, 794, 1), none), ((2, 8, 8, 1), none), ((0, 1, 10, 1), none), ((0, 0, 9, 1), none)], [(0, 0), (1, 1), (2, 2), (3, 3)], [], [], [], [], [], [], none), [(0, 0, 99969)])]) (ss := []) (K := 1) (fuel := 4000) wd_fl2_ok rfl (List.forall_mem_cons.mpr ⟨kh_1074_ok, (List.forall_mem_nil _)⟩) (by decide +kernel)
/- UtilityWorks$Grid linkOf -/
def kh_1076 : ct_T := (30, [(2, 8, 8, 1), (0, 0, 0, 0), (0, 0, 8, 1)], [], [], [(1, (2, 10, 18, 1), [(2, 8, 8, 1), (0, 0, 0, 0), (0, 0, 8, 1)], [], ([], []))], [], 0, 0, 0)
theorem kh_1076_ok : ct_ok wd_fl2 kh_1076 := ct_of (ff := wd_ff2) (y := (⟨"UtilityWorks$Grid", "linkOf", "(II)[I"⟩, prog_5_method_3_code, 3, some (.array .int), 3, 1, 2, 24035, 24033, 24034, 21004)) (Cs := []) (an := []) (ss := []) (K := 1) (fuel := 4000) wd_fl2_ok rfl (List.forall_mem_nil _) (by decide +kernel)
/- UtilityWorks$Grid isUnder -/
def kh_1077 : ct_T := (122, [(2, 8, 8, 1), (0, 0, 8, 1), (0, 0, 9, 1)], [], [], [(1, (0, 1, 1, 0), [(2, 8, 8, 1), (0, 0, 8, 1), (0, 0, 9, 1)], [], ([], [])), (1, (0, 0, 0, 0), [(2, 8, 8, 1), (0, 0, 8, 1), (0, 0, 9, 1)], [], ([], []))], [], 0, 0, 0)
theorem kh_1077_ok : ct_ok wd_fl2 kh_1077 := ct_of (ff := wd_ff2) (y := (⟨"UtilityWorks$Grid", "isUnder", "(II)Z"⟩, prog_5_method_23_code, 3, some .boolean, 3, 1, 2, 26095, 26093, 26094, 21004)) (Cs := []) (an := [(36, 0, ([((2, 8, 8, 1), none), ((0, 0, 8, 1), none), ((0, 0, 9, 1), none)], [(0, 0), (1, 1), (2, 2)], [], [], [], [], [], [], none), [(0, 0, 99964)])]) (ss := []) (K := 1) (fuel := 4000) wd_fl2_ok rfl (List.forall_mem_nil _) (by decide +kernel)
/- UtilityWorks$Sky isOver -/
def kh_1078 : ct_T := (120, [(2, 794, 794, 1), (0, 0, 3, 1), (0, 0, 10, 1)], [], [], [(1, (0, 1, 1, 0), [(2, 794, 794, 1), (0, 0, 3, 1), (0, 0, 10, 1)], [], ([], [])), (1, (0, 0, 0, 0), [(2, 794, 794, 1), (0, 0, 3, 1), (0, 0, 10, 1)], [], ([], []))], [], 1, 40, 0)
theorem kh_1078_ok : ct_ok wd_fl2 kh_1078 := ct_of (ff := wd_ff2) (y := (⟨"UtilityWorks$Sky", "isOver", "(II)Z"⟩, prog_8_method_11_code, 4, some .boolean, 6, 1, 2, 26085, 26084, 1015, 21013)) (Cs := []) (an := [(41, 0, ([((2, 794, 794, 1), none), ((0, 0, 3, 1), none), ((0, 0, 10, 1), none), ((2, 796, 799, 1), none)], [(0, 0), (1, 1), (2, 2), (3, 3)], [], [], [], [], [], [], none), [(0, 0, 99959)])]) (ss := []) (K := 1) (fuel := 4000) wd_fl2_ok rfl (List.forall_mem_nil _) (by decide +kernel)
/- UtilityWorks$Sky forceAt -/
def kh_1079 : ct_T := (119, [(2, 794, 794, 1), (0, 0, 10, 1)], [], [], [(1, (0, 0, 9, 1), [(2, 794, 794, 1), (0, 0, 10, 1)], [], ([], []))], [], 2, 63, 0)
theorem kh_1079_ok : ct_ok wd_fl2 kh_1079 := ct_of (ff := wd_ff2) (y := (⟨"UtilityWorks$Sky", "forceAt", "(I)I"⟩, prog_8_method_12_code, 4, some .int, 6, 1, 1, 26081, 26079, 26080, 21013)) (Cs := [kh_1078]) (an := [(4, 0, ([((2, 794, 794, 1), none), ((0, 0, 10, 1), none), ((0, (-1), 9, 1), none), ((0, 0, 4, 1), none)], [(0, 0), (1, 1), (2, 2), (3, 3)], [], [], [], [], [], [], none), [(0, 0, 99996), (1, 3, 4), (0, 0, 99996)]), (31, 0, ([((2, 794, 794, 1), none), ((0, 0, 10, 1), none), ((0, (-1), 9, 1), none), ((0, 0, 3, 1), none)], [(0, 0), (1, 1), (2, 2), (3, 3)], [], [], [], [], [], [], none), [(0, 0, 99996), (1, 3, 4), (0, 0, 99969)])]) (ss := []) (K := 3) (fuel := 4000) wd_fl2_ok rfl (List.forall_mem_cons.mpr ⟨kh_1078_ok, (List.forall_mem_nil _)⟩) (by decide +kernel)
/- UtilityWorks$Sky strikes -/
def kh_1080 : ct_T := (118, [(2, 794, 794, 1), (2, 8, 8, 1), (0, 0, 10, 1)], [], [], [(1, (0, 1, 1, 0), [(2, 794, 794, 1), (2, 8, 8, 1), (0, 0, 10, 1)], [], ([], [])), (1, (0, 0, 0, 0), [(2, 794, 794, 1), (2, 8, 8, 1), (0, 0, 10, 1)], [], ([], []))], [], 3, 86, 0)
theorem kh_1080_ok : ct_ok wd_fl2 kh_1080 := ct_of (ff := wd_ff2) (y := (⟨"UtilityWorks$Sky", "strikes", "(LUtilityWorks$Grid;I)Z"⟩, prog_8_method_13_code, 4, some .boolean, 6, 1, 2, 26077, 26076, 1014, 21013)) (Cs := [kh_1079]) (an := [(31, 0, ([((2, 794, 794, 1), none), ((2, 8, 8, 1), none), ((0, 0, 10, 1), none), ((0, 0, 9, 1), none)], [(0, 0), (1, 1), (2, 2), (3, 3)], [], [], [], [], [], [], none), [(0, 0, 99969)])]) (ss := []) (K := 1) (fuel := 4000) wd_fl2_ok rfl (List.forall_mem_cons.mpr ⟨kh_1079_ok, (List.forall_mem_nil _)⟩) (by decide +kernel)
/- UtilityWorks$Sky isOver -/
def kh_1081 : ct_T := (120, [(2, 794, 794, 1), (0, 0, 3, 1), (0, 1, 11, 1)], [], [], [(1, (0, 1, 1, 0), [(2, 794, 794, 1), (0, 0, 3, 1), (0, 1, 11, 1)], [], ([], [])), (1, (0, 0, 0, 0), [(2, 794, 794, 1), (0, 0, 3, 1), (0, 1, 11, 1)], [], ([], []))], [], 1, 40, 0)
theorem kh_1081_ok : ct_ok wd_fl2 kh_1081 := ct_of (ff := wd_ff2) (y := (⟨"UtilityWorks$Sky", "isOver", "(II)Z"⟩, prog_8_method_11_code, 4, some .boolean, 6, 1, 2, 26085, 26084, 1015, 21013)) (Cs := []) (an := [(41, 0, ([((2, 794, 794, 1), none), ((0, 0, 3, 1), none), ((0, 1, 11, 1), none), ((2, 796, 799, 1), none)], [(0, 0), (1, 1), (2, 2), (3, 3)], [], [], [], [], [], [], none), [(0, 0, 99959)])]) (ss := []) (K := 1) (fuel := 4000) wd_fl2_ok rfl (List.forall_mem_nil _) (by decide +kernel)
/- UtilityWorks$Sky countBroken -/
def kh_1082 : ct_T := (121, [(2, 794, 794, 1), (0, 0, 8, 1)], [], [], [(0, (0, 0, 0, 0), [(2, 794, 794, 1), (0, 0, 8, 1)], [], ([], []))], [((796, 799), (3, 3, 0)), ((800, 800), (0, 0, 0))], 2, 63, 0)
theorem kh_1082_ok : ct_ok wd_fl2 kh_1082 := ct_of (ff := wd_ff2) (y := (⟨"UtilityWorks$Sky", "countBroken", "(I)V"⟩, prog_8_method_16_code, 3, none, 6, 1, 1, 26091, 26090, 2000, 21013)) (Cs := [kh_1078, kh_1081]) (an := [(12, 0, ([((2, 794, 794, 1), none), ((0, 0, 8, 1), none), ((0, 0, 4, 1), none)], [(0, 0), (1, 1), (2, 2)], [], [], [], [], [], [], none), [(0, 0, 99988), (1, 2, 4), (0, 0, 99988)]), (43, 0, ([((2, 794, 794, 1), none), ((0, 0, 8, 1), none), ((0, 0, 3, 1), none)], [(0, 0), (1, 1), (2, 2)], [], [], [], [], [], [], none), [(0, 0, 99988), (1, 2, 4), (0, 0, 99957)]), (55, 0, ([((2, 794, 794, 1), none), ((0, 0, 8, 1), none), ((0, 0, 3, 1), none)], [(0, 0), (1, 1), (2, 2)], [], [], [], [], [], [], none), [(0, 0, 99988), (1, 2, 4), (0, 0, 99945)])]) (ss := []) (K := 3) (fuel := 4000) wd_fl2_ok rfl (List.forall_mem_cons.mpr ⟨kh_1078_ok, (List.forall_mem_cons.mpr ⟨kh_1081_ok, (List.forall_mem_nil _)⟩)⟩) (by decide +kernel)
/- UtilityWorks$Sky forceAt -/
def kh_1083 : ct_T := (119, [(2, 794, 794, 1), (0, 1, 11, 1)], [], [], [(1, (0, 0, 9, 1), [(2, 794, 794, 1), (0, 1, 11, 1)], [], ([], []))], [], 2, 63, 0)
theorem kh_1083_ok : ct_ok wd_fl2 kh_1083 := ct_of (ff := wd_ff2) (y := (⟨"UtilityWorks$Sky", "forceAt", "(I)I"⟩, prog_8_method_12_code, 4, some .int, 6, 1, 1, 26081, 26079, 26080, 21013)) (Cs := [kh_1081]) (an := [(4, 0, ([((2, 794, 794, 1), none), ((0, 1, 11, 1), none), ((0, (-1), 9, 1), none), ((0, 0, 4, 1), none)], [(0, 0), (1, 1), (2, 2), (3, 3)], [], [], [], [], [], [], none), [(0, 0, 99996), (1, 3, 4), (0, 0, 99996)]), (31, 0, ([((2, 794, 794, 1), none), ((0, 1, 11, 1), none), ((0, (-1), 9, 1), none), ((0, 0, 3, 1), none)], [(0, 0), (1, 1), (2, 2), (3, 3)], [], [], [], [], [], [], none), [(0, 0, 99996), (1, 3, 4), (0, 0, 99969)])]) (ss := []) (K := 3) (fuel := 4000) wd_fl2_ok rfl (List.forall_mem_cons.mpr ⟨kh_1081_ok, (List.forall_mem_nil _)⟩) (by decide +kernel)
/- UtilityWorks$Sky strikes -/
def kh_1084 : ct_T := (118, [(2, 794, 794, 1), (2, 8, 8, 1), (0, 1, 11, 1)], [], [], [(1, (0, 1, 1, 0), [(2, 794, 794, 1), (2, 8, 8, 1), (0, 1, 11, 1)], [], ([], [])), (1, (0, 0, 0, 0), [(2, 794, 794, 1), (2, 8, 8, 1), (0, 1, 11, 1)], [], ([], []))], [], 3, 86, 0)
theorem kh_1084_ok : ct_ok wd_fl2 kh_1084 := ct_of (ff := wd_ff2) (y := (⟨"UtilityWorks$Sky", "strikes", "(LUtilityWorks$Grid;I)Z"⟩, prog_8_method_13_code, 4, some .boolean, 6, 1, 2, 26077, 26076, 1014, 21013)) (Cs := [kh_1083]) (an := [(31, 0, ([((2, 794, 794, 1), none), ((2, 8, 8, 1), none), ((0, 1, 11, 1), none), ((0, 0, 9, 1), none)], [(0, 0), (1, 1), (2, 2), (3, 3)], [], [], [], [], [], [], none), [(0, 0, 99969)])]) (ss := []) (K := 1) (fuel := 4000) wd_fl2_ok rfl (List.forall_mem_cons.mpr ⟨kh_1083_ok, (List.forall_mem_nil _)⟩) (by decide +kernel)
/- UtilityWorks$Grid linkOf -/
def kh_1085 : ct_T := (30, [(2, 8, 8, 1), (0, 0, 0, 0), (0, 0, 9, 1)], [], [], [(1, (2, 10, 19, 1), [(2, 8, 8, 1), (0, 0, 0, 0), (0, 0, 9, 1)], [], ([], []))], [], 0, 0, 0)
theorem kh_1085_ok : ct_ok wd_fl2 kh_1085 := ct_of (ff := wd_ff2) (y := (⟨"UtilityWorks$Grid", "linkOf", "(II)[I"⟩, prog_5_method_3_code, 3, some (.array .int), 3, 1, 2, 24035, 24033, 24034, 21004)) (Cs := []) (an := []) (ss := []) (K := 1) (fuel := 4000) wd_fl2_ok rfl (List.forall_mem_nil _) (by decide +kernel)
/- UtilityWorks$Grid isUnder -/
def kh_1086 : ct_T := (122, [(2, 8, 8, 1), (0, 0, 9, 1), (0, 0, 9, 1)], [], [], [(1, (0, 1, 1, 0), [(2, 8, 8, 1), (0, 0, 9, 1), (0, 0, 9, 1)], [], ([], [])), (1, (0, 0, 0, 0), [(2, 8, 8, 1), (0, 0, 9, 1), (0, 0, 9, 1)], [], ([], []))], [], 0, 0, 0)
theorem kh_1086_ok : ct_ok wd_fl2 kh_1086 := ct_of (ff := wd_ff2) (y := (⟨"UtilityWorks$Grid", "isUnder", "(II)Z"⟩, prog_5_method_23_code, 3, some .boolean, 3, 1, 2, 26095, 26093, 26094, 21004)) (Cs := []) (an := [(36, 0, ([((2, 8, 8, 1), none), ((0, 0, 9, 1), none), ((0, 0, 9, 1), none)], [(0, 0), (1, 1), (2, 2)], [], [], [], [], [], [], none), [(0, 0, 99964)])]) (ss := []) (K := 1) (fuel := 4000) wd_fl2_ok rfl (List.forall_mem_nil _) (by decide +kernel)
/- UtilityWorks$Sky countBroken -/
def kh_1087 : ct_T := (121, [(2, 794, 794, 1), (0, 0, 9, 1)], [], [], [(0, (0, 0, 0, 0), [(2, 794, 794, 1), (0, 0, 9, 1)], [], ([], []))], [((796, 799), (3, 3, 0)), ((800, 800), (0, 0, 0))], 2, 63, 0)
theorem kh_1087_ok : ct_ok wd_fl2 kh_1087 := ct_of (ff := wd_ff2) (y := (⟨"UtilityWorks$Sky", "countBroken", "(I)V"⟩, prog_8_method_16_code, 3, none, 6, 1, 1, 26091, 26090, 2000, 21013)) (Cs := [kh_1078, kh_1081]) (an := [(12, 0, ([((2, 794, 794, 1), none), ((0, 0, 9, 1), none), ((0, 0, 4, 1), none)], [(0, 0), (1, 1), (2, 2)], [], [], [], [], [], [], none), [(0, 0, 99988), (1, 2, 4), (0, 0, 99988)]), (43, 0, ([((2, 794, 794, 1), none), ((0, 0, 9, 1), none), ((0, 0, 3, 1), none)], [(0, 0), (1, 1), (2, 2)], [], [], [], [], [], [], none), [(0, 0, 99988), (1, 2, 4), (0, 0, 99957)]), (55, 0, ([((2, 794, 794, 1), none), ((0, 0, 9, 1), none), ((0, 0, 3, 1), none)], [(0, 0), (1, 1), (2, 2)], [], [], [], [], [], [], none), [(0, 0, 99988), (1, 2, 4), (0, 0, 99945)])]) (ss := []) (K := 3) (fuel := 4000) wd_fl2_ok rfl (List.forall_mem_cons.mpr ⟨kh_1078_ok, (List.forall_mem_cons.mpr ⟨kh_1081_ok, (List.forall_mem_nil _)⟩)⟩) (by decide +kernel)
/- UtilityWorks$Grid linkOf -/
def kh_1088 : ct_T := (30, [(2, 8, 8, 1), (0, 0, 0, 0), (0, 0, 10, 1)], [], [], [(1, (2, 10, 20, 1), [(2, 8, 8, 1), (0, 0, 0, 0), (0, 0, 10, 1)], [], ([], []))], [], 0, 0, 0)
theorem kh_1088_ok : ct_ok wd_fl2 kh_1088 := ct_of (ff := wd_ff2) (y := (⟨"UtilityWorks$Grid", "linkOf", "(II)[I"⟩, prog_5_method_3_code, 3, some (.array .int), 3, 1, 2, 24035, 24033, 24034, 21004)) (Cs := []) (an := []) (ss := []) (K := 1) (fuel := 4000) wd_fl2_ok rfl (List.forall_mem_nil _) (by decide +kernel)
/- UtilityWorks$Grid isUnder -/
def kh_1089 : ct_T := (122, [(2, 8, 8, 1), (0, 0, 10, 1), (0, 0, 9, 1)], [], [], [(1, (0, 1, 1, 0), [(2, 8, 8, 1), (0, 0, 10, 1), (0, 0, 9, 1)], [], ([], [])), (1, (0, 0, 0, 0), [(2, 8, 8, 1), (0, 0, 10, 1), (0, 0, 9, 1)], [], ([], []))], [], 0, 0, 0)
theorem kh_1089_ok : ct_ok wd_fl2 kh_1089 := ct_of (ff := wd_ff2) (y := (⟨"UtilityWorks$Grid", "isUnder", "(II)Z"⟩, prog_5_method_23_code, 3, some .boolean, 3, 1, 2, 26095, 26093, 26094, 21004)) (Cs := []) (an := [(36, 0, ([((2, 8, 8, 1), none), ((0, 0, 10, 1), none), ((0, 0, 9, 1), none)], [(0, 0), (1, 1), (2, 2)], [], [], [], [], [], [], none), [(0, 0, 99964)])]) (ss := []) (K := 1) (fuel := 4000) wd_fl2_ok rfl (List.forall_mem_nil _) (by decide +kernel)
/- UtilityWorks$Sky countBroken -/
def kh_1090 : ct_T := (121, [(2, 794, 794, 1), (0, 0, 10, 1)], [], [], [(0, (0, 0, 0, 0), [(2, 794, 794, 1), (0, 0, 10, 1)], [], ([], []))], [((796, 799), (3, 3, 0)), ((800, 800), (0, 0, 0))], 2, 63, 0)
theorem kh_1090_ok : ct_ok wd_fl2 kh_1090 := ct_of (ff := wd_ff2) (y := (⟨"UtilityWorks$Sky", "countBroken", "(I)V"⟩, prog_8_method_16_code, 3, none, 6, 1, 1, 26091, 26090, 2000, 21013)) (Cs := [kh_1078, kh_1081]) (an := [(12, 0, ([((2, 794, 794, 1), none), ((0, 0, 10, 1), none), ((0, 0, 4, 1), none)], [(0, 0), (1, 1), (2, 2)], [], [], [], [], [], [], none), [(0, 0, 99988), (1, 2, 4), (0, 0, 99988)]), (43, 0, ([((2, 794, 794, 1), none), ((0, 0, 10, 1), none), ((0, 0, 3, 1), none)], [(0, 0), (1, 1), (2, 2)], [], [], [], [], [], [], none), [(0, 0, 99988), (1, 2, 4), (0, 0, 99957)]), (55, 0, ([((2, 794, 794, 1), none), ((0, 0, 10, 1), none), ((0, 0, 3, 1), none)], [(0, 0), (1, 1), (2, 2)], [], [], [], [], [], [], none), [(0, 0, 99988), (1, 2, 4), (0, 0, 99945)])]) (ss := []) (K := 3) (fuel := 4000) wd_fl2_ok rfl (List.forall_mem_cons.mpr ⟨kh_1078_ok, (List.forall_mem_cons.mpr ⟨kh_1081_ok, (List.forall_mem_nil _)⟩)⟩) (by decide +kernel)
/- UtilityWorks$Grid linkOf -/
def kh_1091 : ct_T := (30, [(2, 8, 8, 1), (0, 0, 0, 0), (0, 0, 11, 1)], [], [], [(1, (2, 10, 21, 1), [(2, 8, 8, 1), (0, 0, 0, 0), (0, 0, 11, 1)], [], ([], []))], [], 0, 0, 0)
theorem kh_1091_ok : ct_ok wd_fl2 kh_1091 := ct_of (ff := wd_ff2) (y := (⟨"UtilityWorks$Grid", "linkOf", "(II)[I"⟩, prog_5_method_3_code, 3, some (.array .int), 3, 1, 2, 24035, 24033, 24034, 21004)) (Cs := []) (an := []) (ss := []) (K := 1) (fuel := 4000) wd_fl2_ok rfl (List.forall_mem_nil _) (by decide +kernel)
/- UtilityWorks$Grid isUnder -/
def kh_1092 : ct_T := (122, [(2, 8, 8, 1), (0, 0, 11, 1), (0, 0, 9, 1)], [], [], [(1, (0, 1, 1, 0), [(2, 8, 8, 1), (0, 0, 11, 1), (0, 0, 9, 1)], [], ([], [])), (1, (0, 0, 0, 0), [(2, 8, 8, 1), (0, 0, 11, 1), (0, 0, 9, 1)], [], ([], []))], [], 0, 0, 0)
theorem kh_1092_ok : ct_ok wd_fl2 kh_1092 := ct_of (ff := wd_ff2) (y := (⟨"UtilityWorks$Grid", "isUnder", "(II)Z"⟩, prog_5_method_23_code, 3, some .boolean, 3, 1, 2, 26095, 26093, 26094, 21004)) (Cs := []) (an := [(36, 0, ([((2, 8, 8, 1), none), ((0, 0, 11, 1), none), ((0, 0, 9, 1), none)], [(0, 0), (1, 1), (2, 2)], [], [], [], [], [], [], none), [(0, 0, 99964)])]) (ss := []) (K := 1) (fuel := 4000) wd_fl2_ok rfl (List.forall_mem_nil _) (by decide +kernel)
/- UtilityWorks$Sky countBroken -/
def kh_1093 : ct_T := (121, [(2, 794, 794, 1), (0, 0, 11, 1)], [], [], [(0, (0, 0, 0, 0), [(2, 794, 794, 1), (0, 0, 11, 1)], [], ([], []))], [((796, 799), (3, 3, 0)), ((800, 800), (0, 0, 0))], 2, 63, 0)
theorem kh_1093_ok : ct_ok wd_fl2 kh_1093 := ct_of (ff := wd_ff2) (y := (⟨"UtilityWorks$Sky", "countBroken", "(I)V"⟩, prog_8_method_16_code, 3, none, 6, 1, 1, 26091, 26090, 2000, 21013)) (Cs := [kh_1078, kh_1081]) (an := [(12, 0, ([((2, 794, 794, 1), none), ((0, 0, 11, 1), none), ((0, 0, 4, 1), none)], [(0, 0), (1, 1), (2, 2)], [], [], [], [], [], [], none), [(0, 0, 99988), (1, 2, 4), (0, 0, 99988)]), (43, 0, ([((2, 794, 794, 1), none), ((0, 0, 11, 1), none), ((0, 0, 3, 1), none)], [(0, 0), (1, 1), (2, 2)], [], [], [], [], [], [], none), [(0, 0, 99988), (1, 2, 4), (0, 0, 99957)]), (55, 0, ([((2, 794, 794, 1), none), ((0, 0, 11, 1), none), ((0, 0, 3, 1), none)], [(0, 0), (1, 1), (2, 2)], [], [], [], [], [], [], none), [(0, 0, 99988), (1, 2, 4), (0, 0, 99945)])]) (ss := []) (K := 3) (fuel := 4000) wd_fl2_ok rfl (List.forall_mem_cons.mpr ⟨kh_1078_ok, (List.forall_mem_cons.mpr ⟨kh_1081_ok, (List.forall_mem_nil _)⟩)⟩) (by decide +kernel)
/- UtilityWorks$Grid linkOf -/
def kh_1094 : ct_T := (30, [(2, 8, 8, 1), (0, 0, 0, 0), (0, 0, 12, 1)], [], [], [(1, (2, 10, 22, 1), [(2, 8, 8, 1), (0, 0, 0, 0), (0, 0, 12, 1)], [], ([], []))], [], 0, 0, 0)
theorem kh_1094_ok : ct_ok wd_fl2 kh_1094 := ct_of (ff := wd_ff2) (y := (⟨"UtilityWorks$Grid", "linkOf", "(II)[I"⟩, prog_5_method_3_code, 3, some (.array .int), 3, 1, 2, 24035, 24033, 24034, 21004)) (Cs := []) (an := []) (ss := []) (K := 1) (fuel := 4000) wd_fl2_ok rfl (List.forall_mem_nil _) (by decide +kernel)
/- UtilityWorks$Grid isUnder -/
def kh_1095 : ct_T := (122, [(2, 8, 8, 1), (0, 0, 12, 1), (0, 0, 9, 1)], [], [], [(1, (0, 1, 1, 0), [(2, 8, 8, 1), (0, 0, 12, 1), (0, 0, 9, 1)], [], ([], [])), (1, (0, 0, 0, 0), [(2, 8, 8, 1), (0, 0, 12, 1), (0, 0, 9, 1)], [], ([], []))], [], 0, 0, 0)
theorem kh_1095_ok : ct_ok wd_fl2 kh_1095 := ct_of (ff := wd_ff2) (y := (⟨"UtilityWorks$Grid", "isUnder", "(II)Z"⟩, prog_5_method_23_code, 3, some .boolean, 3, 1, 2, 26095, 26093, 26094, 21004)) (Cs := []) (an := [(36, 0, ([((2, 8, 8, 1), none), ((0, 0, 12, 1), none), ((0, 0, 9, 1), none)], [(0, 0), (1, 1), (2, 2)], [], [], [], [], [], [], none), [(0, 0, 99964)])]) (ss := []) (K := 1) (fuel := 4000) wd_fl2_ok rfl (List.forall_mem_nil _) (by decide +kernel)
/- UtilityWorks$Sky countBroken -/
def kh_1096 : ct_T := (121, [(2, 794, 794, 1), (0, 0, 12, 1)], [], [], [(0, (0, 0, 0, 0), [(2, 794, 794, 1), (0, 0, 12, 1)], [], ([], []))], [((796, 799), (3, 3, 0)), ((800, 800), (0, 0, 0))], 2, 63, 0)
theorem kh_1096_ok : ct_ok wd_fl2 kh_1096 := ct_of (ff := wd_ff2) (y := (⟨"UtilityWorks$Sky", "countBroken", "(I)V"⟩, prog_8_method_16_code, 3, none, 6, 1, 1, 26091, 26090, 2000, 21013)) (Cs := [kh_1078, kh_1081]) (an := [(12, 0, ([((2, 794, 794, 1), none), ((0, 0, 12, 1), none), ((0, 0, 4, 1), none)], [(0, 0), (1, 1), (2, 2)], [], [], [], [], [], [], none), [(0, 0, 99988), (1, 2, 4), (0, 0, 99988)]), (43, 0, ([((2, 794, 794, 1), none), ((0, 0, 12, 1), none), ((0, 0, 3, 1), none)], [(0, 0), (1, 1), (2, 2)], [], [], [], [], [], [], none), [(0, 0, 99988), (1, 2, 4), (0, 0, 99957)]), (55, 0, ([((2, 794, 794, 1), none), ((0, 0, 12, 1), none), ((0, 0, 3, 1), none)], [(0, 0), (1, 1), (2, 2)], [], [], [], [], [], [], none), [(0, 0, 99988), (1, 2, 4), (0, 0, 99945)])]) (ss := []) (K := 3) (fuel := 4000) wd_fl2_ok rfl (List.forall_mem_cons.mpr ⟨kh_1078_ok, (List.forall_mem_cons.mpr ⟨kh_1081_ok, (List.forall_mem_nil _)⟩)⟩) (by decide +kernel)
/- UtilityWorks$Grid linkOf -/
def kh_1097 : ct_T := (30, [(2, 8, 8, 1), (0, 0, 0, 0), (0, 0, 16, 1)], [], [], [(1, (2, 10, 26, 1), [(2, 8, 8, 1), (0, 0, 0, 0), (0, 0, 16, 1)], [], ([], []))], [], 0, 0, 0)
theorem kh_1097_ok : ct_ok wd_fl2 kh_1097 := ct_of (ff := wd_ff2) (y := (⟨"UtilityWorks$Grid", "linkOf", "(II)[I"⟩, prog_5_method_3_code, 3, some (.array .int), 3, 1, 2, 24035, 24033, 24034, 21004)) (Cs := []) (an := []) (ss := []) (K := 1) (fuel := 4000) wd_fl2_ok rfl (List.forall_mem_nil _) (by decide +kernel)
/- UtilityWorks$Grid isUnder -/
def kh_1098 : ct_T := (122, [(2, 8, 8, 1), (0, 0, 16, 1), (0, 0, 9, 1)], [], [], [(1, (0, 1, 1, 0), [(2, 8, 8, 1), (0, 0, 16, 1), (0, 0, 9, 1)], [], ([], [])), (1, (0, 0, 0, 0), [(2, 8, 8, 1), (0, 0, 16, 1), (0, 0, 9, 1)], [], ([], []))], [], 0, 0, 0)
theorem kh_1098_ok : ct_ok wd_fl2 kh_1098 := ct_of (ff := wd_ff2) (y := (⟨"UtilityWorks$Grid", "isUnder", "(II)Z"⟩, prog_5_method_23_code, 3, some .boolean, 3, 1, 2, 26095, 26093, 26094, 21004)) (Cs := []) (an := [(36, 0, ([((2, 8, 8, 1), none), ((0, 0, 16, 1), none), ((0, 0, 9, 1), none)], [(0, 0), (1, 1), (2, 2)], [], [], [], [], [], [], none), [(0, 0, 99964)])]) (ss := []) (K := 1) (fuel := 4000) wd_fl2_ok rfl (List.forall_mem_nil _) (by decide +kernel)
/- UtilityWorks$Sky countBroken -/
def kh_1099 : ct_T := (121, [(2, 794, 794, 1), (0, 0, 16, 1)], [], [], [(0, (0, 0, 0, 0), [(2, 794, 794, 1), (0, 0, 16, 1)], [], ([], []))], [((796, 799), (3, 3, 0)), ((800, 800), (0, 0, 0))], 2, 63, 0)
theorem kh_1099_ok : ct_ok wd_fl2 kh_1099 := ct_of (ff := wd_ff2) (y := (⟨"UtilityWorks$Sky", "countBroken", "(I)V"⟩, prog_8_method_16_code, 3, none, 6, 1, 1, 26091, 26090, 2000, 21013)) (Cs := [kh_1078, kh_1081]) (an := [(12, 0, ([((2, 794, 794, 1), none), ((0, 0, 16, 1), none), ((0, 0, 4, 1), none)], [(0, 0), (1, 1), (2, 2)], [], [], [], [], [], [], none), [(0, 0, 99988), (1, 2, 4), (0, 0, 99988)]), (43, 0, ([((2, 794, 794, 1), none), ((0, 0, 16, 1), none), ((0, 0, 3, 1), none)], [(0, 0), (1, 1), (2, 2)], [], [], [], [], [], [], none), [(0, 0, 99988), (1, 2, 4), (0, 0, 99957)]), (55, 0, ([((2, 794, 794, 1), none), ((0, 0, 16, 1), none), ((0, 0, 3, 1), none)], [(0, 0), (1, 1), (2, 2)], [], [], [], [], [], [], none), [(0, 0, 99988), (1, 2, 4), (0, 0, 99945)])]) (ss := []) (K := 3) (fuel := 4000) wd_fl2_ok rfl (List.forall_mem_cons.mpr ⟨kh_1078_ok, (List.forall_mem_cons.mpr ⟨kh_1081_ok, (List.forall_mem_nil _)⟩)⟩) (by decide +kernel)
abbrev kh_skyGoBy_y : mt_T := (⟨"UtilityWorks$Sky", "goBy", "(LUtilityWorks$Town;)V"⟩, prog_8_method_14_code, 5, none, 6, 1, 1, 26062, 26060, 26061, 21013)
def kh_skyGoBy : ct_T := (115, [(2, 794, 794, 1), (2, 1, 1, 1)], [], [520, 521, 522], [(0, (0, 0, 0, 0), [(2, 794, 794, 1), (2, 1, 1, 1)], [], ([520, 521, 522], []))], [((10, 26), (2, 2, 0)), ((62, 78), (4, 4, 0)), ((794, 794), (0, 0, 0)), ((794, 794), (1, 1, 0)), ((794, 794), (2, 2, 0)), ((794, 794), (4, 4, 0)), ((796, 799), (0, 0, 0)), ((796, 799), (2, 2, 0)), ((796, 799), (3, 3, 0)), ((800, 800), (0, 0, 0)), ((800, 800), (5, 5, 0))], 4, 109, 0)
def kh_skyGoBy_a59 : an_T := (59, 0, ([((2, 794, 794, 1), none), ((2, 1, 1, 1), none)], [(0, 0), (1, 1)], [0], [], [], [], [], [520, 521, 522], none), [])
def kh_skyGoBy_a62 : an_T := (62, 0, ([((2, 794, 794, 1), none), ((2, 1, 1, 1), none)], [(0, 0), (1, 1)], [], [], [], [], [], [520, 521, 522], none), [])
def kh_skyGoBy_a64 : an_T := (64, 0, ([((2, 794, 794, 1), none), ((2, 1, 1, 1), none), ((0, 0, 17, 1), none)], [(0, 0), (1, 1), (2, 2)], [], [], [], [], [], [520, 521, 522], none), [])
def kh_skyGoBy_b0_0 : sg_T := (59, 0, ([((2, 794, 794, 1), none), ((2, 1, 1, 1), none), ((0, 3, 3, 0), none), ((0, 0, 0, 1), none)], [(0, 0), (1, 1)], [0], [(0, 2, 3)], [], [(800003, 0, 2)], [], [520, 521, 522], some []))
def kh_skyGoBy_b0_1 : sg_T := (59, 0, ([((2, 794, 794, 1), none), ((2, 1, 1, 1), none), ((0, 3, 3, 0), none), ((0, 1, 1, 1), none), ((0, 0, 65536, 1), none), ((0, 4, 4, 0), none), ((0, 4, 4, 0), none), ((0, 31, 31, 0), none), ((0, 0, 30, 1), none), ((0, 10, 10, 0), none), ((0, (-10), 20, 1), some (8, (-10))), ((0, 0, 0, 0), none), ((0, 4, 4, 0), none), ((0, 31, 31, 0), none), ((0, 0, 2114, 1), none), ((0, 10, 10, 0), none), ((0, 0, 9, 1), none), ((0, 1, 1, 0), none), ((0, 4, 4, 0), none), ((0, 310, 310, 0), none), ((0, 0, 211, 1), none), ((0, 10, 10, 0), none), ((0, 0, 9, 1), none), ((0, 2, 2, 0), none)], [(0, 0), (1, 1)], [0], [(0, 23, 22), (0, 17, 16), (0, 11, 10), (0, 5, 4), (0, 2, 3)], [(3, 0)], [(900200022, 20, 21), (900020, 4, 19), (900200016, 14, 15), (900014, 4, 13), (600010, 8, 9), (900200008, 4, 7), (104500004, 0, 0), (800003, 0, 2)], [], [520, 521, 522], some [(0, 23, 22), (0, 17, 16), (0, 11, 10), (0, 5, 4)]))
def kh_skyGoBy_b59_0 : sg_T := (62, 0, ([((2, 794, 794, 1), none), ((2, 1, 1, 1), none)], [(0, 0), (1, 1)], [], [], [], [], [], [520, 521, 522], none))
def kh_skyGoBy_b62_0 : sg_T := (64, 0, ([((2, 794, 794, 1), none), ((2, 1, 1, 1), none), ((0, 0, 0, 0), none)], [(2, 2), (0, 0), (1, 1)], [], [], [], [], [], [520, 521, 522], some []))
def kh_skyGoBy_b64_0 : sg_T := (175, 0, ([((2, 794, 794, 1), none), ((2, 1, 1, 1), none), ((0, 17, 17, 1), none), ((0, 17, 17, 0), none)], [(0, 0), (1, 1), (2, 2)], [], [], [], [(200000, 3, 2)], [], [520, 521, 522], some []))
def kh_skyGoBy_b64_1 : sg_T := (64, 0, ([((2, 794, 794, 1), none), ((2, 1, 1, 1), none), ((0, 0, 16, 1), none), ((0, 17, 17, 0), none), ((2, 8, 8, 1), none), ((0, 0, 0, 0), none), ((2, 10, 26, 1), none), ((0, 2, 2, 0), none), ((0, 0, 0, 1), none), ((0, 1, 1, 0), none), ((2, 8, 8, 1), none), ((0, 2, 2, 0), none), ((0, 0, 9, 1), none), ((0, 1, 1, 0), none), ((0, 1, 1, 0), none), ((2, 8, 8, 1), none), ((2, 61, 61, 1), none), ((2, 62, 78, 1), none), ((0, 4, 4, 0), none), ((2, 800, 800, 1), none), ((0, 5, 5, 0), none), ((0, (-2147483648), 2147483647, 1), none), ((0, (-2147483648), 2147483647, 1), none), ((0, 1, 17, 1), some (2, 1))], [(2, 23), (4, 14), (3, 6), (0, 0), (1, 1)], [], [(19, 20, 22), (17, 18, 14), (16, 2, 17), (0, 11, 12), (6, 7, 8)], [(8, 1)], [(900000022, 21, 14), (800012, 0, 11), (400000, 8, 9), (800008, 6, 7), (100000, 2, 3)], [], [520, 521, 522], some [(19, 20, 22), (17, 18, 14)]))
def kh_skyGoBy_b64_2 : sg_T := (64, 0, ([((2, 794, 794, 1), none), ((2, 1, 1, 1), none), ((0, 0, 16, 1), none), ((0, 17, 17, 0), none), ((2, 8, 8, 1), none), ((0, 0, 0, 0), none), ((2, 10, 26, 1), none), ((0, 2, 2, 0), none), ((0, 0, 0, 1), none), ((0, 1, 1, 0), none), ((2, 8, 8, 1), none), ((0, 2, 2, 0), none), ((0, 0, 9, 1), none), ((0, 0, 0, 0), none), ((0, 0, 0, 0), none), ((2, 8, 8, 1), none), ((2, 61, 61, 1), none), ((2, 62, 78, 1), none), ((0, 4, 4, 0), none), ((2, 800, 800, 1), none), ((0, 5, 5, 0), none), ((0, (-2147483648), 2147483647, 1), none), ((0, (-2147483648), 2147483647, 1), some (21, 0)), ((0, 1, 17, 1), some (2, 1))], [(2, 23), (4, 14), (3, 6), (0, 0), (1, 1)], [], [(19, 20, 22), (17, 18, 14), (16, 2, 17), (0, 11, 12), (6, 7, 8)], [(8, 1)], [(500022, 21, 14), (800012, 0, 11), (400000, 8, 9), (800008, 6, 7), (100000, 2, 3)], [], [520, 521, 522], some [(19, 20, 22), (17, 18, 14)]))
def kh_skyGoBy_b64_3 : sg_T := (64, 0, ([((2, 794, 794, 1), none), ((2, 1, 1, 1), none), ((0, 0, 16, 1), none), ((0, 17, 17, 0), none), ((2, 8, 8, 1), none), ((0, 0, 0, 0), none), ((2, 10, 26, 1), none), ((0, 2, 2, 0), none), ((0, 1, 1, 1), none), ((0, 1, 1, 0), none), ((2, 8, 8, 1), none), ((3, 0, 0, 0), none), ((0, 0, 10, 1), none), ((0, 1, 1, 0), none), ((0, 2, 2, 0), none), ((0, 0, 0, 0), none), ((2, 8, 8, 1), none), ((0, 2, 2, 0), none), ((0, 0, 9, 1), none), ((0, 1, 1, 0), none), ((0, 1, 1, 0), none), ((2, 8, 8, 1), none), ((2, 61, 61, 1), none), ((2, 62, 78, 1), none), ((0, 4, 4, 0), none), ((2, 800, 800, 1), none), ((0, 5, 5, 0), none), ((0, (-2147483648), 2147483647, 1), none), ((0, (-2147483648), 2147483647, 1), none), ((0, 1, 17, 1), some (2, 1))], [(2, 29), (4, 20), (3, 6), (0, 0), (1, 1)], [], [(25, 26, 28), (23, 24, 20), (22, 2, 23), (0, 17, 18), (6, 14, 15)], [(13, 0)], [(300000, 8, 9), (800008, 6, 7), (100000, 2, 3)], [], [520, 521, 522], none))
def kh_skyGoBy_b64_4 : sg_T := (64, 0, ([((2, 794, 794, 1), none), ((2, 1, 1, 1), none), ((0, 0, 16, 1), none), ((0, 17, 17, 0), none), ((2, 8, 8, 1), none), ((0, 0, 0, 0), none), ((2, 10, 26, 1), none), ((0, 2, 2, 0), none), ((0, 1, 1, 1), none), ((0, 1, 1, 0), none), ((2, 8, 8, 1), none), ((3, 0, 0, 0), none), ((0, 0, 10, 1), none), ((0, 1, 1, 0), none), ((0, 2, 2, 0), none), ((0, 0, 0, 0), none), ((2, 8, 8, 1), none), ((0, 2, 2, 0), none), ((0, 0, 9, 1), none), ((0, 0, 0, 0), none), ((0, 0, 0, 0), none), ((2, 8, 8, 1), none), ((2, 61, 61, 1), none), ((2, 62, 78, 1), none), ((0, 4, 4, 0), none), ((2, 800, 800, 1), none), ((0, 5, 5, 0), none), ((0, (-2147483648), 2147483647, 1), none), ((0, (-2147483648), 2147483647, 1), some (27, 0)), ((0, 1, 17, 1), some (2, 1))], [(2, 29), (4, 20), (3, 6), (0, 0), (1, 1)], [], [(25, 26, 28), (23, 24, 20), (22, 2, 23), (0, 17, 18), (6, 14, 15)], [(13, 0)], [(300000, 8, 9), (800008, 6, 7), (100000, 2, 3)], [], [520, 521, 522], none))
def kh_skyGoBy_b64_5 : sg_T := (64, 0, ([((2, 794, 794, 1), none), ((2, 1, 1, 1), none), ((0, 0, 16, 1), none), ((0, 17, 17, 0), none), ((2, 8, 8, 1), none), ((0, 0, 0, 0), none), ((2, 10, 26, 1), none), ((0, 2, 2, 0), none), ((0, 1, 1, 1), none), ((0, 1, 1, 0), none), ((2, 8, 8, 1), none), ((3, 0, 0, 0), none), ((0, 0, 10, 1), none), ((0, 0, 0, 0), none), ((2, 8, 8, 1), none), ((3, 1, 1, 0), none), ((0, 1, 11, 1), none), ((0, 1, 1, 0), none), ((0, 2, 2, 0), none), ((0, 0, 0, 0), none), ((2, 8, 8, 1), none), ((0, 2, 2, 0), none), ((0, 0, 9, 1), none), ((0, 1, 1, 0), none), ((0, 1, 1, 0), none), ((2, 8, 8, 1), none), ((2, 61, 61, 1), none), ((2, 62, 78, 1), none), ((0, 4, 4, 0), none), ((2, 800, 800, 1), none), ((0, 5, 5, 0), none), ((0, (-2147483648), 2147483647, 1), none), ((0, (-2147483648), 2147483647, 1), none), ((0, 1, 17, 1), some (2, 1))], [(2, 33), (4, 24), (3, 6), (0, 0), (1, 1)], [], [(29, 30, 32), (27, 28, 24), (26, 2, 27), (0, 21, 22), (6, 18, 19)], [(17, 0)], [(300000, 8, 9), (800008, 6, 7), (100000, 2, 3)], [], [520, 521, 522], none))
def kh_skyGoBy_b64_6 : sg_T := (64, 0, ([((2, 794, 794, 1), none), ((2, 1, 1, 1), none), ((0, 0, 16, 1), none), ((0, 17, 17, 0), none), ((2, 8, 8, 1), none), ((0, 0, 0, 0), none), ((2, 10, 26, 1), none), ((0, 2, 2, 0), none), ((0, 1, 1, 1), none), ((0, 1, 1, 0), none), ((2, 8, 8, 1), none), ((3, 0, 0, 0), none), ((0, 0, 10, 1), none), ((0, 0, 0, 0), none), ((2, 8, 8, 1), none), ((3, 1, 1, 0), none), ((0, 1, 11, 1), none), ((0, 1, 1, 0), none), ((0, 2, 2, 0), none), ((0, 0, 0, 0), none), ((2, 8, 8, 1), none), ((0, 2, 2, 0), none), ((0, 0, 9, 1), none), ((0, 0, 0, 0), none), ((0, 0, 0, 0), none), ((2, 8, 8, 1), none), ((2, 61, 61, 1), none), ((2, 62, 78, 1), none), ((0, 4, 4, 0), none), ((2, 800, 800, 1), none), ((0, 5, 5, 0), none), ((0, (-2147483648), 2147483647, 1), none), ((0, (-2147483648), 2147483647, 1), some (31, 0)), ((0, 1, 17, 1), some (2, 1))], [(2, 33), (4, 24), (3, 6), (0, 0), (1, 1)], [], [(29, 30, 32), (27, 28, 24), (26, 2, 27), (0, 21, 22), (6, 18, 19)], [(17, 0)], [(300000, 8, 9), (800008, 6, 7), (100000, 2, 3)], [], [520, 521, 522], none))
def kh_skyGoBy_b64_7 : sg_T := (64, 0, ([((2, 794, 794, 1), none), ((2, 1, 1, 1), none), ((0, 0, 16, 1), none), ((0, 17, 17, 0), none), ((2, 8, 8, 1), none), ((0, 0, 0, 0), none), ((2, 10, 26, 1), none), ((0, 2, 2, 0), none), ((0, 1, 1, 1), none), ((0, 1, 1, 0), none), ((2, 8, 8, 1), none), ((3, 0, 0, 0), none), ((0, 0, 10, 1), none), ((0, 0, 0, 0), none), ((2, 8, 8, 1), none), ((3, 1, 1, 0), none), ((0, 1, 11, 1), none), ((0, 0, 0, 0), none), ((2, 8, 8, 1), none), ((0, 2, 2, 0), none), ((0, 0, 9, 1), none), ((0, 1, 1, 0), none), ((0, 1, 1, 0), none), ((2, 8, 8, 1), none), ((2, 61, 61, 1), none), ((2, 62, 78, 1), none), ((0, 4, 4, 0), none), ((2, 800, 800, 1), none), ((0, 5, 5, 0), none), ((0, (-2147483648), 2147483647, 1), none), ((0, (-2147483648), 2147483647, 1), none), ((0, 1, 17, 1), some (2, 1))], [(2, 31), (4, 22), (3, 6), (0, 0), (1, 1)], [], [(27, 28, 30), (25, 26, 22), (24, 2, 25), (0, 19, 20), (6, 7, 8)], [], [(900000030, 29, 22), (800020, 0, 19), (300000, 8, 9), (800008, 6, 7), (100000, 2, 3)], [], [520, 521, 522], some [(27, 28, 30), (25, 26, 22)]))
def kh_skyGoBy_b64_8 : sg_T := (64, 0, ([((2, 794, 794, 1), none), ((2, 1, 1, 1), none), ((0, 0, 16, 1), none), ((0, 17, 17, 0), none), ((2, 8, 8, 1), none), ((0, 0, 0, 0), none), ((2, 10, 26, 1), none), ((0, 2, 2, 0), none), ((0, 1, 1, 1), none), ((0, 1, 1, 0), none), ((2, 8, 8, 1), none), ((3, 0, 0, 0), none), ((0, 0, 10, 1), none), ((0, 0, 0, 0), none), ((2, 8, 8, 1), none), ((3, 1, 1, 0), none), ((0, 1, 11, 1), none), ((0, 0, 0, 0), none), ((2, 8, 8, 1), none), ((0, 2, 2, 0), none), ((0, 0, 9, 1), none), ((0, 0, 0, 0), none), ((0, 0, 0, 0), none), ((2, 8, 8, 1), none), ((2, 61, 61, 1), none), ((2, 62, 78, 1), none), ((0, 4, 4, 0), none), ((2, 800, 800, 1), none), ((0, 5, 5, 0), none), ((0, (-2147483648), 2147483647, 1), none), ((0, (-2147483648), 2147483647, 1), some (29, 0)), ((0, 1, 17, 1), some (2, 1))], [(2, 31), (4, 22), (3, 6), (0, 0), (1, 1)], [], [(27, 28, 30), (25, 26, 22), (24, 2, 25), (0, 19, 20), (6, 7, 8)], [], [(500030, 29, 22), (800020, 0, 19), (300000, 8, 9), (800008, 6, 7), (100000, 2, 3)], [], [520, 521, 522], some [(27, 28, 30), (25, 26, 22)]))
def kh_skyGoBy_I (l : Launch) (D : va_G) (tc : Nat → ClassId) (ad : Nat → Nat) (kd : Nat → Nat × Nat) (N : Nat) (sm : Nat → Nat) (xs : List av_X) (S : fw_S) (p : Program) (e : Env) (s : State) (m : MethodId) (args : Array Value) (below : List Frame) (meth : Method) (c : Code) (sz : Nat) (k : Nat) : Prop := (∀ (α : List av_X) (lv : List (Nat × Value)) (st : List Value) (S1 : fw_S), as_in ad sm wd_fl2 xs S kh_skyGoBy.2.2.2.2.2.1 α kh_skyGoBy_a59.2.2.1 lv st S1 → (skT S S1 ∧ ∀ k : Nat, k < 4 → stK S S1 k) → 100 < k → hd_WR R_skyDay wd_fl2 kh_skyGoBy kh_skyGoBy_y l D tc ad kd N sm xs S p e s m args below meth c sz 59 lv st S1 0) ∧ (∀ (α : List av_X) (lv : List (Nat × Value)) (st : List Value) (S1 : fw_S), as_in ad sm wd_fl2 xs S kh_skyGoBy.2.2.2.2.2.1 α kh_skyGoBy_a62.2.2.1 lv st S1 → (skT S S1 ∧ ∀ k : Nat, k < 4 → stM S S1 k) → 90 < k → hd_WR R_skyDay wd_fl2 kh_skyGoBy kh_skyGoBy_y l D tc ad kd N sm xs S p e s m args below meth c sz 62 lv st S1 0) ∧ (∀ (α : List av_X) (lv : List (Nat × Value)) (st : List Value) (S1 : fw_S), as_in ad sm wd_fl2 xs S kh_skyGoBy.2.2.2.2.2.1 α kh_skyGoBy_a64.2.2.1 lv st S1 → (skT S S1 ∧ ∀ k : Nat, k < 4 → stM S S1 k) → (17 - nv α 2).toNat < k → hd_WR R_skyDay wd_fl2 kh_skyGoBy kh_skyGoBy_y l D tc ad kd N sm xs S p e s m args below meth c sz 64 lv st S1 0) ∧ True
set_option maxHeartbeats 16000000 in
set_option maxRecDepth 8000 in
theorem kh_skyGoBy_h59 {l : Launch} {D : va_G} {tc : Nat → ClassId} {ad : Nat → Nat} {kd : Nat → Nat × Nat} {N : Nat} {sm : Nat → Nat} {xs : List av_X} {S : fw_S} {p : Program} {e : Env} {s : State} {m : MethodId} {args : Array Value} {below : List Frame} {meth : Method} {c : Code} {sz : Nat} {lvE : List (Nat × Value)} (G : hd_C wd_ff2 wd_fl2 kh_skyGoBy [kh_nextSeed, kh_moveStorms, kh_1004, kh_1005, kh_959, kh_926, kh_1008, kh_1010, kh_1012, kh_1013, kh_1014, kh_1017, kh_1019, kh_1021, kh_1022, kh_1023, kh_1026, kh_1028, kh_1030, kh_1031, kh_1032, kh_1035, kh_1037, kh_1039, kh_1040, kh_1041, kh_1044, kh_1046, kh_1048, kh_1049, kh_1050, kh_1053, kh_1055, kh_1057, kh_1058, kh_1059, kh_1062, kh_1064, kh_1066, kh_1067, kh_1068, kh_1071, kh_1073, kh_1075, kh_1076, kh_1077, kh_1080, kh_1082, kh_1084, kh_1085, kh_1086, kh_1087, kh_1088, kh_1089, kh_1090, kh_1091, kh_1092, kh_1093, kh_1094, kh_1095, kh_1096, kh_1097, kh_1098, kh_1099] kh_skyGoBy_y l D tc ad kd N sm xs p s m args meth c sz) (H0 : as_in ad sm wd_fl2 xs S kh_skyGoBy.2.2.2.2.2.1 xs (hd_0 kh_skyGoBy) lvE [] S) {k : Nat} (ih : kh_skyGoBy_I l D tc ad kd N sm xs S p e s m args below meth c sz k) : (∀ (α : List av_X) (lv : List (Nat × Value)) (st : List Value) (S1 : fw_S), as_in ad sm wd_fl2 xs S kh_skyGoBy.2.2.2.2.2.1 α kh_skyGoBy_a59.2.2.1 lv st S1 → (skT S S1 ∧ ∀ k : Nat, k < 4 → stK S S1 k) → 100 < k + 1 → hd_WR R_skyDay wd_fl2 kh_skyGoBy kh_skyGoBy_y l D tc ad kd N sm xs S p e s m args below meth c sz 59 lv st S1 0) := by
  have hx : xs.length = 2 := by rw [H0.2.1.1]; rfl
  intro α lv st S1 H hp hk
  obtain ⟨α1, hle, Hr⟩ := as_recM (pl := []) [((796, 799), (0, 0, 0)), ((796, 799), (2, 2, 0))] (by decide +kernel) H
  have hf := H.2.2.2.2.2.2.2.2.2.2.1
  have hl1 : α1.length = 2 := by rw [Hr.2.1.1]; rfl
  have hl0 : α.length = 2 := by rw [H.2.1.1]; rfl
  have hxa : al_le xs α1 := H.1.trans hle
  obtain ⟨g1, -, g3, g4, -⟩ := as_fx Hr
  have g0 : (794 ≤ nv α1 0 ∧ nv α1 0 ≤ 794) ∧ (1 ≤ nv α1 1 ∧ nv α1 1 ≤ 1) ∧ True := by
    refine ⟨by have h := (en_nv (i := 0) Hr.2.1 rfl).2; exact h, by have h := (en_nv (i := 1) Hr.2.1 rfl).2; exact h, trivial⟩
  have r0 : nv α1 0 = nv α 0 := nv_le hle (by omega)
  have r1 : nv α1 1 = nv α 1 := nv_le hle (by omega)
  refine hd_callRR (Rr := R_move) (Rs := [kh_moveStorms]) (idx := 86) G (List.forall_mem_cons.mpr ⟨kh_moveStorms_okR, List.forall_mem_nil _⟩) (na := 2) (Bs := [kh_skyGoBy_b59_0]) (by decide +kernel) (by decide +kernel) hl1 Hr ?_
  intro q hq β lv' st' S' H1 hRx
  simp only [List.mem_cons, List.not_mem_nil, or_false] at hq
  rcases hq with rfl
  · obtain ⟨f1, f2, f3, f4, f5⟩ := as_fx H1
    simp only [kh_skyGoBy_b59_0, Nat.reduceEqDiff, if_false, fx_env, fx_c, fx_ne, fx_hf, wl_S, Nat.zero_add, Nat.reduceAdd, Nat.reduceDiv, Nat.reduceMod, List.getElem?_cons_zero, List.getElem?_cons_succ, if_true, and_true, true_and] at f1 f2 f3 f4 f5
    have fe0 : nv β 0 = 794 := by omega
    have fe1 : nv β 1 = 1 := by omega
    try simp only [fe0, fe1, Int.reduceToNat] at f2 f3 f4 f5
    have s0 : nv β 0 = nv α1 0 := nv_le H1.1 (by omega)
    have s1 : nv β 1 = nv α1 1 := nv_le H1.1 (by omega)
    obtain ⟨α', Ha, hm⟩ := hd_gpM (q := kh_skyGoBy_a62) (n := 0) (by decide +kernel) hx H1 (by decide +kernel) hxa hf
    have hfr := H1.2.2.2.2.2.2.2.2.2.2.1
    have m0 : nv α' 0 = nv β 0 := hm 0 0 rfl
    have m1 : nv α' 1 = nv β 1 := hm 1 1 rfl
    have hR2 : ∀ k : Nat, k < 4 → stM S1 S' k := (by obtain ⟨Cc, hCc, ys, rr, hnm, hR, rest, hre⟩ := hRx; exact hR)
    have e0 := fr_pl hfr 794 0 (by decide +kernel)
    have e3 := fr_pl hfr 794 3 (by decide +kernel)
    have e4 := fr_pl hfr 794 4 (by decide +kernel)
    obtain ⟨p1, p2⟩ := hp
    refine ih.2.1 _ _ _ _ Ha ?_ ?_
    · refine ⟨?_, fun k hk => ?_⟩
      · unfold skT at p1 ⊢
        rw [e0, e3, e4]; exact p1
      · have g := hR2 k hk
        unfold stM at g ⊢
        rw [(p2 k hk).1, (p2 k hk).2] at g
        exact g
    · omega
set_option maxHeartbeats 16000000 in
set_option maxRecDepth 8000 in
theorem kh_skyGoBy_h62 {l : Launch} {D : va_G} {tc : Nat → ClassId} {ad : Nat → Nat} {kd : Nat → Nat × Nat} {N : Nat} {sm : Nat → Nat} {xs : List av_X} {S : fw_S} {p : Program} {e : Env} {s : State} {m : MethodId} {args : Array Value} {below : List Frame} {meth : Method} {c : Code} {sz : Nat} {lvE : List (Nat × Value)} (G : hd_C wd_ff2 wd_fl2 kh_skyGoBy [kh_nextSeed, kh_moveStorms, kh_1004, kh_1005, kh_959, kh_926, kh_1008, kh_1010, kh_1012, kh_1013, kh_1014, kh_1017, kh_1019, kh_1021, kh_1022, kh_1023, kh_1026, kh_1028, kh_1030, kh_1031, kh_1032, kh_1035, kh_1037, kh_1039, kh_1040, kh_1041, kh_1044, kh_1046, kh_1048, kh_1049, kh_1050, kh_1053, kh_1055, kh_1057, kh_1058, kh_1059, kh_1062, kh_1064, kh_1066, kh_1067, kh_1068, kh_1071, kh_1073, kh_1075, kh_1076, kh_1077, kh_1080, kh_1082, kh_1084, kh_1085, kh_1086, kh_1087, kh_1088, kh_1089, kh_1090, kh_1091, kh_1092, kh_1093, kh_1094, kh_1095, kh_1096, kh_1097, kh_1098, kh_1099] kh_skyGoBy_y l D tc ad kd N sm xs p s m args meth c sz) (H0 : as_in ad sm wd_fl2 xs S kh_skyGoBy.2.2.2.2.2.1 xs (hd_0 kh_skyGoBy) lvE [] S) {k : Nat} (ih : kh_skyGoBy_I l D tc ad kd N sm xs S p e s m args below meth c sz k) : (∀ (α : List av_X) (lv : List (Nat × Value)) (st : List Value) (S1 : fw_S), as_in ad sm wd_fl2 xs S kh_skyGoBy.2.2.2.2.2.1 α kh_skyGoBy_a62.2.2.1 lv st S1 → (skT S S1 ∧ ∀ k : Nat, k < 4 → stM S S1 k) → 90 < k + 1 → hd_WR R_skyDay wd_fl2 kh_skyGoBy kh_skyGoBy_y l D tc ad kd N sm xs S p e s m args below meth c sz 62 lv st S1 0) := by
  have hx : xs.length = 2 := by rw [H0.2.1.1]; rfl
  intro α lv st S1 H hp hk
  obtain ⟨α1, hle, Hr⟩ := as_recM (pl := []) [] (by decide +kernel) H
  have hf := H.2.2.2.2.2.2.2.2.2.2.1
  have hl1 : α1.length = 2 := by rw [Hr.2.1.1]; rfl
  have hl0 : α.length = 2 := by rw [H.2.1.1]; rfl
  have hxa : al_le xs α1 := H.1.trans hle
  obtain ⟨g1, -, g3, g4, -⟩ := as_fx Hr
  have g0 : (794 ≤ nv α1 0 ∧ nv α1 0 ≤ 794) ∧ (1 ≤ nv α1 1 ∧ nv α1 1 ≤ 1) ∧ True := by
    refine ⟨by have h := (en_nv (i := 0) Hr.2.1 rfl).2; exact h, by have h := (en_nv (i := 1) Hr.2.1 rfl).2; exact h, trivial⟩
  have r0 : nv α1 0 = nv α 0 := nv_le hle (by omega)
  have r1 : nv α1 1 = nv α 1 := nv_le hle (by omega)
  refine hd_segMR G (na := 2) (fuel := 600) (first := true) (Bs := [kh_skyGoBy_b62_0]) (by decide +kernel) hl1 Hr ?_
  intro q hq β lv' st' S' H1
  simp only [List.mem_cons, List.not_mem_nil, or_false] at hq
  rcases hq with rfl
  · obtain ⟨f1, f2, f3, f4, f5⟩ := as_fx H1
    simp only [kh_skyGoBy_b62_0, Nat.reduceEqDiff, if_false, fx_env, fx_c, fx_ne, fx_hf, wl_S, Nat.zero_add, Nat.reduceAdd, Nat.reduceDiv, Nat.reduceMod, List.getElem?_cons_zero, List.getElem?_cons_succ, if_true, and_true, true_and] at f1 f2 f3 f4 f5
    have fe0 : nv β 0 = 794 := by omega
    have fe1 : nv β 1 = 1 := by omega
    have fe2 : nv β 2 = 0 := by omega
    try simp only [fe0, fe1, fe2, Int.reduceToNat] at f2 f3 f4 f5
    have s0 : nv β 0 = nv α1 0 := nv_le H1.1 (by omega)
    have s1 : nv β 1 = nv α1 1 := nv_le H1.1 (by omega)
    obtain ⟨α', Ha, hm⟩ := hd_gpM (q := kh_skyGoBy_a64) (n := 0) (by decide +kernel) hx H1 (by decide +kernel) hxa hf
    have hfr := H1.2.2.2.2.2.2.2.2.2.2.1
    have m0 : nv α' 0 = nv β 0 := hm 0 0 rfl
    have m1 : nv α' 1 = nv β 1 := hm 1 1 rfl
    have m2 : nv α' 2 = nv β 2 := hm 2 2 rfl

    refine ih.2.2.1 _ _ _ _ Ha ?_ ?_
    · rw [show S' = S1 from f5]; exact hp
    · omega
set_option maxHeartbeats 16000000 in
set_option maxRecDepth 8000 in
theorem kh_skyGoBy_h64 {l : Launch} {D : va_G} {tc : Nat → ClassId} {ad : Nat → Nat} {kd : Nat → Nat × Nat} {N : Nat} {sm : Nat → Nat} {xs : List av_X} {S : fw_S} {p : Program} {e : Env} {s : State} {m : MethodId} {args : Array Value} {below : List Frame} {meth : Method} {c : Code} {sz : Nat} {lvE : List (Nat × Value)} (G : hd_C wd_ff2 wd_fl2 kh_skyGoBy [kh_nextSeed, kh_moveStorms, kh_1004, kh_1005, kh_959, kh_926, kh_1008, kh_1010, kh_1012, kh_1013, kh_1014, kh_1017, kh_1019, kh_1021, kh_1022, kh_1023, kh_1026, kh_1028, kh_1030, kh_1031, kh_1032, kh_1035, kh_1037, kh_1039, kh_1040, kh_1041, kh_1044, kh_1046, kh_1048, kh_1049, kh_1050, kh_1053, kh_1055, kh_1057, kh_1058, kh_1059, kh_1062, kh_1064, kh_1066, kh_1067, kh_1068, kh_1071, kh_1073, kh_1075, kh_1076, kh_1077, kh_1080, kh_1082, kh_1084, kh_1085, kh_1086, kh_1087, kh_1088, kh_1089, kh_1090, kh_1091, kh_1092, kh_1093, kh_1094, kh_1095, kh_1096, kh_1097, kh_1098, kh_1099] kh_skyGoBy_y l D tc ad kd N sm xs p s m args meth c sz) (H0 : as_in ad sm wd_fl2 xs S kh_skyGoBy.2.2.2.2.2.1 xs (hd_0 kh_skyGoBy) lvE [] S) {k : Nat} (ih : kh_skyGoBy_I l D tc ad kd N sm xs S p e s m args below meth c sz k) : (∀ (α : List av_X) (lv : List (Nat × Value)) (st : List Value) (S1 : fw_S), as_in ad sm wd_fl2 xs S kh_skyGoBy.2.2.2.2.2.1 α kh_skyGoBy_a64.2.2.1 lv st S1 → (skT S S1 ∧ ∀ k : Nat, k < 4 → stM S S1 k) → (17 - nv α 2).toNat < k + 1 → hd_WR R_skyDay wd_fl2 kh_skyGoBy kh_skyGoBy_y l D tc ad kd N sm xs S p e s m args below meth c sz 64 lv st S1 0) := by
  have hx : xs.length = 2 := by rw [H0.2.1.1]; rfl
  intro α lv st S1 H hp hk
  obtain ⟨α1, hle, Hr⟩ := as_recM (pl := []) [((10, 26), (2, 2, 0)), ((62, 78), (4, 4, 0)), ((796, 799), (3, 3, 0)), ((800, 800), (0, 0, 0)), ((800, 800), (5, 5, 0))] (by decide +kernel) H
  have hf := H.2.2.2.2.2.2.2.2.2.2.1
  have hl1 : α1.length = 3 := by rw [Hr.2.1.1]; rfl
  have hl0 : α.length = 3 := by rw [H.2.1.1]; rfl
  have hxa : al_le xs α1 := H.1.trans hle
  obtain ⟨g1, -, g3, g4, -⟩ := as_fx Hr
  have g0 : (794 ≤ nv α1 0 ∧ nv α1 0 ≤ 794) ∧ (1 ≤ nv α1 1 ∧ nv α1 1 ≤ 1) ∧ (0 ≤ nv α1 2 ∧ nv α1 2 ≤ 17) ∧ True := by
    refine ⟨by have h := (en_nv (i := 0) Hr.2.1 rfl).2; exact h, by have h := (en_nv (i := 1) Hr.2.1 rfl).2; exact h, by have h := (en_nv (i := 2) Hr.2.1 rfl).2; exact h, trivial⟩
  have r0 : nv α1 0 = nv α 0 := nv_le hle (by omega)
  have r1 : nv α1 1 = nv α 1 := nv_le hle (by omega)
  have r2 : nv α1 2 = nv α 2 := nv_le hle (by omega)
  refine hd_segMR G (na := 3) (fuel := 600) (first := true) (Bs := [kh_skyGoBy_b64_0, kh_skyGoBy_b64_1, kh_skyGoBy_b64_2, kh_skyGoBy_b64_3, kh_skyGoBy_b64_4, kh_skyGoBy_b64_5, kh_skyGoBy_b64_6, kh_skyGoBy_b64_7, kh_skyGoBy_b64_8]) (by decide +kernel) hl1 Hr ?_
  intro q hq β lv' st' S' H1
  simp only [List.mem_cons, List.not_mem_nil, or_false] at hq
  rcases hq with rfl | rfl | rfl | rfl | rfl | rfl | rfl | rfl | rfl
  · obtain ⟨f1, f2, f3, f4, f5⟩ := as_fx H1
    simp only [kh_skyGoBy_b64_0, Nat.reduceEqDiff, if_false, fx_env, fx_c, fx_ne, fx_hf, wl_S, Nat.zero_add, Nat.reduceAdd, Nat.reduceDiv, Nat.reduceMod, List.getElem?_cons_zero, List.getElem?_cons_succ, if_true, and_true, true_and] at f1 f2 f3 f4 f5
    have fe0 : nv β 0 = 794 := by omega
    have fe1 : nv β 1 = 1 := by omega
    have fe2 : nv β 2 = 17 := by omega
    have fe3 : nv β 3 = 17 := by omega
    try simp only [fe0, fe1, fe2, fe3, Int.reduceToNat] at f2 f3 f4 f5
    have s0 : nv β 0 = nv α1 0 := nv_le H1.1 (by omega)
    have s1 : nv β 1 = nv α1 1 := nv_le H1.1 (by omega)
    have s2 : nv β 2 = nv α1 2 := nv_le H1.1 (by omega)
    have c0 := f2
    exact hd_retVR G (by decide +kernel) (as_backM H1 (by decide +kernel) hxa hf) (by decide +kernel) (by decide) (by rw [show S' = S1 from f5]; exact skT_in hp.1 hp.2)
  · obtain ⟨f1, f2, f3, f4, f5⟩ := as_fx H1
    simp only [kh_skyGoBy_b64_1, Nat.reduceEqDiff, if_false, fx_env, fx_c, fx_ne, fx_hf, wl_S, Nat.zero_add, Nat.reduceAdd, Nat.reduceDiv, Nat.reduceMod, List.getElem?_cons_zero, List.getElem?_cons_succ, if_true, and_true, true_and] at f1 f2 f3 f4 f5
    have fe0 : nv β 0 = 794 := by omega
    have fe1 : nv β 1 = 1 := by omega
    have fe3 : nv β 3 = 17 := by omega
    have fe4 : nv β 4 = 8 := by omega
    have fe5 : nv β 5 = 0 := by omega
    have fe7 : nv β 7 = 2 := by omega
    have fe8 : nv β 8 = 0 := by omega
    have fe9 : nv β 9 = 1 := by omega
    have fe10 : nv β 10 = 8 := by omega
    have fe11 : nv β 11 = 2 := by omega
    have fe13 : nv β 13 = 1 := by omega
    have fe14 : nv β 14 = 1 := by omega
    have fe15 : nv β 15 = 8 := by omega
    have fe16 : nv β 16 = 61 := by omega
    have fe18 : nv β 18 = 4 := by omega
    have fe19 : nv β 19 = 800 := by omega
    have fe20 : nv β 20 = 5 := by omega
    try simp only [fe0, fe1, fe3, fe4, fe5, fe7, fe8, fe9, fe10, fe11, fe13, fe14, fe15, fe16, fe18, fe19, fe20, Int.reduceToNat] at f2 f3 f4 f5
    have s0 : nv β 0 = nv α1 0 := nv_le H1.1 (by omega)
    have s1 : nv β 1 = nv α1 1 := nv_le H1.1 (by omega)
    have s2 : nv β 2 = nv α1 2 := nv_le H1.1 (by omega)
    obtain ⟨c0, c1, c2, c3, c4⟩ := f2
    obtain ⟨α', Ha, hm⟩ := hd_gpM (q := kh_skyGoBy_a64) (n := 0) (by decide +kernel) hx H1 (by decide +kernel) hxa hf
    have hfr := H1.2.2.2.2.2.2.2.2.2.2.1
    have m0 : nv α' 0 = nv β 0 := hm 0 0 rfl
    have m1 : nv α' 1 = nv β 1 := hm 1 1 rfl
    have m2 : nv α' 2 = nv β 23 := hm 2 23 rfl
    have e0 := fr_pl hfr 794 0 (by decide +kernel)
    have e3 := fr_pl hfr 794 3 (by decide +kernel)
    have e4 := fr_pl hfr 794 4 (by decide +kernel)
    obtain ⟨p1, p2⟩ := hp
    refine ih.2.2.1 _ _ _ _ Ha ?_ ?_
    · refine ⟨?_, fun k hk => ?_⟩
      · unfold skT at p1 ⊢
        rw [e0, e3, e4]; exact p1
      · have g := p2 k hk
        have r0' := fr_cs hfr 796 799 (0, 0, 0) (by decide +kernel) (k := 796 + k) (j := 0) (by omega) (by omega) (pg_mk (by omega) (by omega) (by omega))
        have r2' := fr_cs hfr 796 799 (2, 2, 0) (by decide +kernel) (k := 796 + k) (j := 2) (by omega) (by omega) (pg_mk (by omega) (by omega) (by omega))
        unfold stM at g ⊢
        rw [r0', r2']
        exact g
    · omega
  · obtain ⟨f1, f2, f3, f4, f5⟩ := as_fx H1
    simp only [kh_skyGoBy_b64_2, Nat.reduceEqDiff, if_false, fx_env, fx_c, fx_ne, fx_hf, wl_S, Nat.zero_add, Nat.reduceAdd, Nat.reduceDiv, Nat.reduceMod, List.getElem?_cons_zero, List.getElem?_cons_succ, if_true, and_true, true_and] at f1 f2 f3 f4 f5
    have fe0 : nv β 0 = 794 := by omega
    have fe1 : nv β 1 = 1 := by omega
    have fe3 : nv β 3 = 17 := by omega
    have fe4 : nv β 4 = 8 := by omega
    have fe5 : nv β 5 = 0 := by omega
    have fe7 : nv β 7 = 2 := by omega
    have fe8 : nv β 8 = 0 := by omega
    have fe9 : nv β 9 = 1 := by omega
    have fe10 : nv β 10 = 8 := by omega
    have fe11 : nv β 11 = 2 := by omega
    have fe13 : nv β 13 = 0 := by omega
    have fe14 : nv β 14 = 0 := by omega
    have fe15 : nv β 15 = 8 := by omega
    have fe16 : nv β 16 = 61 := by omega
    have fe18 : nv β 18 = 4 := by omega
    have fe19 : nv β 19 = 800 := by omega
    have fe20 : nv β 20 = 5 := by omega
    try simp only [fe0, fe1, fe3, fe4, fe5, fe7, fe8, fe9, fe10, fe11, fe13, fe14, fe15, fe16, fe18, fe19, fe20, Int.reduceToNat] at f2 f3 f4 f5
    have s0 : nv β 0 = nv α1 0 := nv_le H1.1 (by omega)
    have s1 : nv β 1 = nv α1 1 := nv_le H1.1 (by omega)
    have s2 : nv β 2 = nv α1 2 := nv_le H1.1 (by omega)
    obtain ⟨c0, c1, c2, c3, c4⟩ := f2
    obtain ⟨α', Ha, hm⟩ := hd_gpM (q := kh_skyGoBy_a64) (n := 0) (by decide +kernel) hx H1 (by decide +kernel) hxa hf
    have hfr := H1.2.2.2.2.2.2.2.2.2.2.1
    have m0 : nv α' 0 = nv β 0 := hm 0 0 rfl
    have m1 : nv α' 1 = nv β 1 := hm 1 1 rfl
    have m2 : nv α' 2 = nv β 23 := hm 2 23 rfl
    have e0 := fr_pl hfr 794 0 (by decide +kernel)
    have e3 := fr_pl hfr 794 3 (by decide +kernel)
    have e4 := fr_pl hfr 794 4 (by decide +kernel)
    obtain ⟨p1, p2⟩ := hp
    refine ih.2.2.1 _ _ _ _ Ha ?_ ?_
    · refine ⟨?_, fun k hk => ?_⟩
      · unfold skT at p1 ⊢
        rw [e0, e3, e4]; exact p1
      · have g := p2 k hk
        have r0' := fr_cs hfr 796 799 (0, 0, 0) (by decide +kernel) (k := 796 + k) (j := 0) (by omega) (by omega) (pg_mk (by omega) (by omega) (by omega))
        have r2' := fr_cs hfr 796 799 (2, 2, 0) (by decide +kernel) (k := 796 + k) (j := 2) (by omega) (by omega) (pg_mk (by omega) (by omega) (by omega))
        unfold stM at g ⊢
        rw [r0', r2']
        exact g
    · omega
  · obtain ⟨f1, f2, f3, f4, f5⟩ := as_fx H1
    simp only [kh_skyGoBy_b64_3, Nat.reduceEqDiff, if_false, fx_env, fx_c, fx_ne, fx_hf, wl_S, Nat.zero_add, Nat.reduceAdd, Nat.reduceDiv, Nat.reduceMod, List.getElem?_cons_zero, List.getElem?_cons_succ, if_true, and_true, true_and] at f1 f2 f3 f4 f5
    have fe0 : nv β 0 = 794 := by omega
    have fe1 : nv β 1 = 1 := by omega
    have fe3 : nv β 3 = 17 := by omega
    have fe4 : nv β 4 = 8 := by omega
    have fe5 : nv β 5 = 0 := by omega
    have fe7 : nv β 7 = 2 := by omega
    have fe8 : nv β 8 = 1 := by omega
    have fe9 : nv β 9 = 1 := by omega
    have fe10 : nv β 10 = 8 := by omega
    have fe13 : nv β 13 = 1 := by omega
    have fe14 : nv β 14 = 2 := by omega
    have fe15 : nv β 15 = 0 := by omega
    have fe16 : nv β 16 = 8 := by omega
    have fe17 : nv β 17 = 2 := by omega
    have fe19 : nv β 19 = 1 := by omega
    have fe20 : nv β 20 = 1 := by omega
    have fe21 : nv β 21 = 8 := by omega
    have fe22 : nv β 22 = 61 := by omega
    have fe24 : nv β 24 = 4 := by omega
    have fe25 : nv β 25 = 800 := by omega
    have fe26 : nv β 26 = 5 := by omega
    try simp only [fe0, fe1, fe3, fe4, fe5, fe7, fe8, fe9, fe10, fe13, fe14, fe15, fe16, fe17, fe19, fe20, fe21, fe22, fe24, fe25, fe26, Int.reduceToNat] at f2 f3 f4 f5
    have s0 : nv β 0 = nv α1 0 := nv_le H1.1 (by omega)
    have s1 : nv β 1 = nv α1 1 := nv_le H1.1 (by omega)
    have s2 : nv β 2 = nv α1 2 := nv_le H1.1 (by omega)
    obtain ⟨c0, c1, c2⟩ := f2
    obtain ⟨α', Ha, hm⟩ := hd_gpM (q := kh_skyGoBy_a64) (n := 0) (by decide +kernel) hx H1 (by decide +kernel) hxa hf
    have hfr := H1.2.2.2.2.2.2.2.2.2.2.1
    have m0 : nv α' 0 = nv β 0 := hm 0 0 rfl
    have m1 : nv α' 1 = nv β 1 := hm 1 1 rfl
    have m2 : nv α' 2 = nv β 29 := hm 2 29 rfl
    have e0 := fr_pl hfr 794 0 (by decide +kernel)
    have e3 := fr_pl hfr 794 3 (by decide +kernel)
    have e4 := fr_pl hfr 794 4 (by decide +kernel)
    obtain ⟨p1, p2⟩ := hp
    refine ih.2.2.1 _ _ _ _ Ha ?_ ?_
    · refine ⟨?_, fun k hk => ?_⟩
      · unfold skT at p1 ⊢
        rw [e0, e3, e4]; exact p1
      · have g := p2 k hk
        have r0' := fr_cs hfr 796 799 (0, 0, 0) (by decide +kernel) (k := 796 + k) (j := 0) (by omega) (by omega) (pg_mk (by omega) (by omega) (by omega))
        have r2' := fr_cs hfr 796 799 (2, 2, 0) (by decide +kernel) (k := 796 + k) (j := 2) (by omega) (by omega) (pg_mk (by omega) (by omega) (by omega))
        unfold stM at g ⊢
        rw [r0', r2']
        exact g
    · omega
  · obtain ⟨f1, f2, f3, f4, f5⟩ := as_fx H1
    simp only [kh_skyGoBy_b64_4, Nat.reduceEqDiff, if_false, fx_env, fx_c, fx_ne, fx_hf, wl_S, Nat.zero_add, Nat.reduceAdd, Nat.reduceDiv, Nat.reduceMod, List.getElem?_cons_zero, List.getElem?_cons_succ, if_true, and_true, true_and] at f1 f2 f3 f4 f5
    have fe0 : nv β 0 = 794 := by omega
    have fe1 : nv β 1 = 1 := by omega
    have fe3 : nv β 3 = 17 := by omega
    have fe4 : nv β 4 = 8 := by omega
    have fe5 : nv β 5 = 0 := by omega
    have fe7 : nv β 7 = 2 := by omega
    have fe8 : nv β 8 = 1 := by omega
    have fe9 : nv β 9 = 1 := by omega
    have fe10 : nv β 10 = 8 := by omega
    have fe13 : nv β 13 = 1 := by omega
    have fe14 : nv β 14 = 2 := by omega
    have fe15 : nv β 15 = 0 := by omega
    have fe16 : nv β 16 = 8 := by omega
    have fe17 : nv β 17 = 2 := by omega
    have fe19 : nv β 19 = 0 := by omega
    have fe20 : nv β 20 = 0 := by omega
    have fe21 : nv β 21 = 8 := by omega
    have fe22 : nv β 22 = 61 := by omega
    have fe24 : nv β 24 = 4 := by omega
    have fe25 : nv β 25 = 800 := by omega
    have fe26 : nv β 26 = 5 := by omega
    try simp only [fe0, fe1, fe3, fe4, fe5, fe7, fe8, fe9, fe10, fe13, fe14, fe15, fe16, fe17, fe19, fe20, fe21, fe22, fe24, fe25, fe26, Int.reduceToNat] at f2 f3 f4 f5
    have s0 : nv β 0 = nv α1 0 := nv_le H1.1 (by omega)
    have s1 : nv β 1 = nv α1 1 := nv_le H1.1 (by omega)
    have s2 : nv β 2 = nv α1 2 := nv_le H1.1 (by omega)
    obtain ⟨c0, c1, c2⟩ := f2
    obtain ⟨α', Ha, hm⟩ := hd_gpM (q := kh_skyGoBy_a64) (n := 0) (by decide +kernel) hx H1 (by decide +kernel) hxa hf
    have hfr := H1.2.2.2.2.2.2.2.2.2.2.1
    have m0 : nv α' 0 = nv β 0 := hm 0 0 rfl
    have m1 : nv α' 1 = nv β 1 := hm 1 1 rfl
    have m2 : nv α' 2 = nv β 29 := hm 2 29 rfl
    have e0 := fr_pl hfr 794 0 (by decide +kernel)
    have e3 := fr_pl hfr 794 3 (by decide +kernel)
    have e4 := fr_pl hfr 794 4 (by decide +kernel)
    obtain ⟨p1, p2⟩ := hp
    refine ih.2.2.1 _ _ _ _ Ha ?_ ?_
    · refine ⟨?_, fun k hk => ?_⟩
      · unfold skT at p1 ⊢
        rw [e0, e3, e4]; exact p1
      · have g := p2 k hk
        have r0' := fr_cs hfr 796 799 (0, 0, 0) (by decide +kernel) (k := 796 + k) (j := 0) (by omega) (by omega) (pg_mk (by omega) (by omega) (by omega))
        have r2' := fr_cs hfr 796 799 (2, 2, 0) (by decide +kernel) (k := 796 + k) (j := 2) (by omega) (by omega) (pg_mk (by omega) (by omega) (by omega))
        unfold stM at g ⊢
        rw [r0', r2']
        exact g
    · omega
  · obtain ⟨f1, f2, f3, f4, f5⟩ := as_fx H1
    simp only [kh_skyGoBy_b64_5, Nat.reduceEqDiff, if_false, fx_env, fx_c, fx_ne, fx_hf, wl_S, Nat.zero_add, Nat.reduceAdd, Nat.reduceDiv, Nat.reduceMod, List.getElem?_cons_zero, List.getElem?_cons_succ, if_true, and_true, true_and] at f1 f2 f3 f4 f5
    have fe0 : nv β 0 = 794 := by omega
    have fe1 : nv β 1 = 1 := by omega
    have fe3 : nv β 3 = 17 := by omega
    have fe4 : nv β 4 = 8 := by omega
    have fe5 : nv β 5 = 0 := by omega
    have fe7 : nv β 7 = 2 := by omega
    have fe8 : nv β 8 = 1 := by omega
    have fe9 : nv β 9 = 1 := by omega
    have fe10 : nv β 10 = 8 := by omega
    have fe13 : nv β 13 = 0 := by omega
    have fe14 : nv β 14 = 8 := by omega
    have fe17 : nv β 17 = 1 := by omega
    have fe18 : nv β 18 = 2 := by omega
    have fe19 : nv β 19 = 0 := by omega
    have fe20 : nv β 20 = 8 := by omega
    have fe21 : nv β 21 = 2 := by omega
    have fe23 : nv β 23 = 1 := by omega
    have fe24 : nv β 24 = 1 := by omega
    have fe25 : nv β 25 = 8 := by omega
    have fe26 : nv β 26 = 61 := by omega
    have fe28 : nv β 28 = 4 := by omega
    have fe29 : nv β 29 = 800 := by omega
    have fe30 : nv β 30 = 5 := by omega
    try simp only [fe0, fe1, fe3, fe4, fe5, fe7, fe8, fe9, fe10, fe13, fe14, fe17, fe18, fe19, fe20, fe21, fe23, fe24, fe25, fe26, fe28, fe29, fe30, Int.reduceToNat] at f2 f3 f4 f5
    have s0 : nv β 0 = nv α1 0 := nv_le H1.1 (by omega)
    have s1 : nv β 1 = nv α1 1 := nv_le H1.1 (by omega)
    have s2 : nv β 2 = nv α1 2 := nv_le H1.1 (by omega)
    obtain ⟨c0, c1, c2⟩ := f2
    obtain ⟨α', Ha, hm⟩ := hd_gpM (q := kh_skyGoBy_a64) (n := 0) (by decide +kernel) hx H1 (by decide +kernel) hxa hf
    have hfr := H1.2.2.2.2.2.2.2.2.2.2.1
    have m0 : nv α' 0 = nv β 0 := hm 0 0 rfl
    have m1 : nv α' 1 = nv β 1 := hm 1 1 rfl
    have m2 : nv α' 2 = nv β 33 := hm 2 33 rfl
    have e0 := fr_pl hfr 794 0 (by decide +kernel)
    have e3 := fr_pl hfr 794 3 (by decide +kernel)
    have e4 := fr_pl hfr 794 4 (by decide +kernel)
    obtain ⟨p1, p2⟩ := hp
    refine ih.2.2.1 _ _ _ _ Ha ?_ ?_
    · refine ⟨?_, fun k hk => ?_⟩
      · unfold skT at p1 ⊢
        rw [e0, e3, e4]; exact p1
      · have g := p2 k hk
        have r0' := fr_cs hfr 796 799 (0, 0, 0) (by decide +kernel) (k := 796 + k) (j := 0) (by omega) (by omega) (pg_mk (by omega) (by omega) (by omega))
        have r2' := fr_cs hfr 796 799 (2, 2, 0) (by decide +kernel) (k := 796 + k) (j := 2) (by omega) (by omega) (pg_mk (by omega) (by omega) (by omega))
        unfold stM at g ⊢
        rw [r0', r2']
        exact g
    · omega
  · obtain ⟨f1, f2, f3, f4, f5⟩ := as_fx H1
    simp only [kh_skyGoBy_b64_6, Nat.reduceEqDiff, if_false, fx_env, fx_c, fx_ne, fx_hf, wl_S, Nat.zero_add, Nat.reduceAdd, Nat.reduceDiv, Nat.reduceMod, List.getElem?_cons_zero, List.getElem?_cons_succ, if_true, and_true, true_and] at f1 f2 f3 f4 f5
    have fe0 : nv β 0 = 794 := by omega
    have fe1 : nv β 1 = 1 := by omega
    have fe3 : nv β 3 = 17 := by omega
    have fe4 : nv β 4 = 8 := by omega
    have fe5 : nv β 5 = 0 := by omega
    have fe7 : nv β 7 = 2 := by omega
    have fe8 : nv β 8 = 1 := by omega
    have fe9 : nv β 9 = 1 := by omega
    have fe10 : nv β 10 = 8 := by omega
    have fe13 : nv β 13 = 0 := by omega
    have fe14 : nv β 14 = 8 := by omega
    have fe17 : nv β 17 = 1 := by omega
    have fe18 : nv β 18 = 2 := by omega
    have fe19 : nv β 19 = 0 := by omega
    have fe20 : nv β 20 = 8 := by omega
    have fe21 : nv β 21 = 2 := by omega
    have fe23 : nv β 23 = 0 := by omega
    have fe24 : nv β 24 = 0 := by omega
    have fe25 : nv β 25 = 8 := by omega
    have fe26 : nv β 26 = 61 := by omega
    have fe28 : nv β 28 = 4 := by omega
    have fe29 : nv β 29 = 800 := by omega
    have fe30 : nv β 30 = 5 := by omega
    try simp only [fe0, fe1, fe3, fe4, fe5, fe7, fe8, fe9, fe10, fe13, fe14, fe17, fe18, fe19, fe20, fe21, fe23, fe24, fe25, fe26, fe28, fe29, fe30, Int.reduceToNat] at f2 f3 f4 f5
    have s0 : nv β 0 = nv α1 0 := nv_le H1.1 (by omega)
    have s1 : nv β 1 = nv α1 1 := nv_le H1.1 (by omega)
    have s2 : nv β 2 = nv α1 2 := nv_le H1.1 (by omega)
    obtain ⟨c0, c1, c2⟩ := f2
    obtain ⟨α', Ha, hm⟩ := hd_gpM (q := kh_skyGoBy_a64) (n := 0) (by decide +kernel) hx H1 (by decide +kernel) hxa hf
    have hfr := H1.2.2.2.2.2.2.2.2.2.2.1
    have m0 : nv α' 0 = nv β 0 := hm 0 0 rfl
    have m1 : nv α' 1 = nv β 1 := hm 1 1 rfl
    have m2 : nv α' 2 = nv β 33 := hm 2 33 rfl
    have e0 := fr_pl hfr 794 0 (by decide +kernel)
    have e3 := fr_pl hfr 794 3 (by decide +kernel)
    have e4 := fr_pl hfr 794 4 (by decide +kernel)
    obtain ⟨p1, p2⟩ := hp
    refine ih.2.2.1 _ _ _ _ Ha ?_ ?_
    · refine ⟨?_, fun k hk => ?_⟩
      · unfold skT at p1 ⊢
        rw [e0, e3, e4]; exact p1
      · have g := p2 k hk
        have r0' := fr_cs hfr 796 799 (0, 0, 0) (by decide +kernel) (k := 796 + k) (j := 0) (by omega) (by omega) (pg_mk (by omega) (by omega) (by omega))
        have r2' := fr_cs hfr 796 799 (2, 2, 0) (by decide +kernel) (k := 796 + k) (j := 2) (by omega) (by omega) (pg_mk (by omega) (by omega) (by omega))
        unfold stM at g ⊢
        rw [r0', r2']
        exact g
    · omega
  · obtain ⟨f1, f2, f3, f4, f5⟩ := as_fx H1
    simp only [kh_skyGoBy_b64_7, Nat.reduceEqDiff, if_false, fx_env, fx_c, fx_ne, fx_hf, wl_S, Nat.zero_add, Nat.reduceAdd, Nat.reduceDiv, Nat.reduceMod, List.getElem?_cons_zero, List.getElem?_cons_succ, if_true, and_true, true_and] at f1 f2 f3 f4 f5
    have fe0 : nv β 0 = 794 := by omega
    have fe1 : nv β 1 = 1 := by omega
    have fe3 : nv β 3 = 17 := by omega
    have fe4 : nv β 4 = 8 := by omega
    have fe5 : nv β 5 = 0 := by omega
    have fe7 : nv β 7 = 2 := by omega
    have fe8 : nv β 8 = 1 := by omega
    have fe9 : nv β 9 = 1 := by omega
    have fe10 : nv β 10 = 8 := by omega
    have fe13 : nv β 13 = 0 := by omega
    have fe14 : nv β 14 = 8 := by omega
    have fe17 : nv β 17 = 0 := by omega
    have fe18 : nv β 18 = 8 := by omega
    have fe19 : nv β 19 = 2 := by omega
    have fe21 : nv β 21 = 1 := by omega
    have fe22 : nv β 22 = 1 := by omega
    have fe23 : nv β 23 = 8 := by omega
    have fe24 : nv β 24 = 61 := by omega
    have fe26 : nv β 26 = 4 := by omega
    have fe27 : nv β 27 = 800 := by omega
    have fe28 : nv β 28 = 5 := by omega
    try simp only [fe0, fe1, fe3, fe4, fe5, fe7, fe8, fe9, fe10, fe13, fe14, fe17, fe18, fe19, fe21, fe22, fe23, fe24, fe26, fe27, fe28, Int.reduceToNat] at f2 f3 f4 f5
    have s0 : nv β 0 = nv α1 0 := nv_le H1.1 (by omega)
    have s1 : nv β 1 = nv α1 1 := nv_le H1.1 (by omega)
    have s2 : nv β 2 = nv α1 2 := nv_le H1.1 (by omega)
    obtain ⟨c0, c1, c2, c3, c4⟩ := f2
    obtain ⟨α', Ha, hm⟩ := hd_gpM (q := kh_skyGoBy_a64) (n := 0) (by decide +kernel) hx H1 (by decide +kernel) hxa hf
    have hfr := H1.2.2.2.2.2.2.2.2.2.2.1
    have m0 : nv α' 0 = nv β 0 := hm 0 0 rfl
    have m1 : nv α' 1 = nv β 1 := hm 1 1 rfl
    have m2 : nv α' 2 = nv β 31 := hm 2 31 rfl
    have e0 := fr_pl hfr 794 0 (by decide +kernel)
    have e3 := fr_pl hfr 794 3 (by decide +kernel)
    have e4 := fr_pl hfr 794 4 (by decide +kernel)
    obtain ⟨p1, p2⟩ := hp
    refine ih.2.2.1 _ _ _ _ Ha ?_ ?_
    · refine ⟨?_, fun k hk => ?_⟩
      · unfold skT at p1 ⊢
        rw [e0, e3, e4]; exact p1
      · have g := p2 k hk
        have r0' := fr_cs hfr 796 799 (0, 0, 0) (by decide +kernel) (k := 796 + k) (j := 0) (by omega) (by omega) (pg_mk (by omega) (by omega) (by omega))
        have r2' := fr_cs hfr 796 799 (2, 2, 0) (by decide +kernel) (k := 796 + k) (j := 2) (by omega) (by omega) (pg_mk (by omega) (by omega) (by omega))
        unfold stM at g ⊢
        rw [r0', r2']
        exact g
    · omega
  · obtain ⟨f1, f2, f3, f4, f5⟩ := as_fx H1
    simp only [kh_skyGoBy_b64_8, Nat.reduceEqDiff, if_false, fx_env, fx_c, fx_ne, fx_hf, wl_S, Nat.zero_add, Nat.reduceAdd, Nat.reduceDiv, Nat.reduceMod, List.getElem?_cons_zero, List.getElem?_cons_succ, if_true, and_true, true_and] at f1 f2 f3 f4 f5
    have fe0 : nv β 0 = 794 := by omega
    have fe1 : nv β 1 = 1 := by omega
    have fe3 : nv β 3 = 17 := by omega
    have fe4 : nv β 4 = 8 := by omega
    have fe5 : nv β 5 = 0 := by omega
    have fe7 : nv β 7 = 2 := by omega
    have fe8 : nv β 8 = 1 := by omega
    have fe9 : nv β 9 = 1 := by omega
    have fe10 : nv β 10 = 8 := by omega
    have fe13 : nv β 13 = 0 := by omega
    have fe14 : nv β 14 = 8 := by omega
    have fe17 : nv β 17 = 0 := by omega
    have fe18 : nv β 18 = 8 := by omega
    have fe19 : nv β 19 = 2 := by omega
    have fe21 : nv β 21 = 0 := by omega
    have fe22 : nv β 22 = 0 := by omega
    have fe23 : nv β 23 = 8 := by omega
    have fe24 : nv β 24 = 61 := by omega
    have fe26 : nv β 26 = 4 := by omega
    have fe27 : nv β 27 = 800 := by omega
    have fe28 : nv β 28 = 5 := by omega
    try simp only [fe0, fe1, fe3, fe4, fe5, fe7, fe8, fe9, fe10, fe13, fe14, fe17, fe18, fe19, fe21, fe22, fe23, fe24, fe26, fe27, fe28, Int.reduceToNat] at f2 f3 f4 f5
    have s0 : nv β 0 = nv α1 0 := nv_le H1.1 (by omega)
    have s1 : nv β 1 = nv α1 1 := nv_le H1.1 (by omega)
    have s2 : nv β 2 = nv α1 2 := nv_le H1.1 (by omega)
    obtain ⟨c0, c1, c2, c3, c4⟩ := f2
    obtain ⟨α', Ha, hm⟩ := hd_gpM (q := kh_skyGoBy_a64) (n := 0) (by decide +kernel) hx H1 (by decide +kernel) hxa hf
    have hfr := H1.2.2.2.2.2.2.2.2.2.2.1
    have m0 : nv α' 0 = nv β 0 := hm 0 0 rfl
    have m1 : nv α' 1 = nv β 1 := hm 1 1 rfl
    have m2 : nv α' 2 = nv β 31 := hm 2 31 rfl
    have e0 := fr_pl hfr 794 0 (by decide +kernel)
    have e3 := fr_pl hfr 794 3 (by decide +kernel)
    have e4 := fr_pl hfr 794 4 (by decide +kernel)
    obtain ⟨p1, p2⟩ := hp
    refine ih.2.2.1 _ _ _ _ Ha ?_ ?_
    · refine ⟨?_, fun k hk => ?_⟩
      · unfold skT at p1 ⊢
        rw [e0, e3, e4]; exact p1
      · have g := p2 k hk
        have r0' := fr_cs hfr 796 799 (0, 0, 0) (by decide +kernel) (k := 796 + k) (j := 0) (by omega) (by omega) (pg_mk (by omega) (by omega) (by omega))
        have r2' := fr_cs hfr 796 799 (2, 2, 0) (by decide +kernel) (k := 796 + k) (j := 2) (by omega) (by omega) (pg_mk (by omega) (by omega) (by omega))
        unfold stM at g ⊢
        rw [r0', r2']
        exact g
    · omega
set_option maxHeartbeats 16000000 in
set_option maxRecDepth 8000 in
theorem kh_skyGoBy_okR : ct_okR wd_fl2 kh_skyGoBy R_skyDay := ct_handR (R := R_skyDay) (ff := wd_ff2) (y := kh_skyGoBy_y) (Cs := [kh_nextSeed, kh_moveStorms, kh_1004, kh_1005, kh_959, kh_926, kh_1008, kh_1010, kh_1012, kh_1013, kh_1014, kh_1017, kh_1019, kh_1021, kh_1022, kh_1023, kh_1026, kh_1028, kh_1030, kh_1031, kh_1032, kh_1035, kh_1037, kh_1039, kh_1040, kh_1041, kh_1044, kh_1046, kh_1048, kh_1049, kh_1050, kh_1053, kh_1055, kh_1057, kh_1058, kh_1059, kh_1062, kh_1064, kh_1066, kh_1067, kh_1068, kh_1071, kh_1073, kh_1075, kh_1076, kh_1077, kh_1080, kh_1082, kh_1084, kh_1085, kh_1086, kh_1087, kh_1088, kh_1089, kh_1090, kh_1091, kh_1092, kh_1093, kh_1094, kh_1095, kh_1096, kh_1097, kh_1098, kh_1099]) wd_fl2_ok rfl (List.forall_mem_cons.mpr ⟨kh_nextSeed_ok, (List.forall_mem_cons.mpr ⟨kh_moveStorms_ok, (List.forall_mem_cons.mpr ⟨kh_1004_ok, (List.forall_mem_cons.mpr ⟨kh_1005_ok, (List.forall_mem_cons.mpr ⟨kh_959_ok, (List.forall_mem_cons.mpr ⟨kh_926_ok, (List.forall_mem_cons.mpr ⟨kh_1008_ok, (List.forall_mem_cons.mpr ⟨kh_1010_ok, (List.forall_mem_cons.mpr ⟨kh_1012_ok, (List.forall_mem_cons.mpr ⟨kh_1013_ok, (List.forall_mem_cons.mpr ⟨kh_1014_ok, (List.forall_mem_cons.mpr ⟨kh_1017_ok, (List.forall_mem_cons.mpr ⟨kh_1019_ok, (List.forall_mem_cons.mpr ⟨kh_1021_ok, (List.forall_mem_cons.mpr ⟨kh_1022_ok, (List.forall_mem_cons.mpr ⟨kh_1023_ok, (List.forall_mem_cons.mpr ⟨kh_1026_ok, (List.forall_mem_cons.mpr ⟨kh_1028_ok, (List.forall_mem_cons.mpr ⟨kh_1030_ok, (List.forall_mem_cons.mpr ⟨kh_1031_ok, (List.forall_mem_cons.mpr ⟨kh_1032_ok, (List.forall_mem_cons.mpr ⟨kh_1035_ok, (List.forall_mem_cons.mpr ⟨kh_1037_ok, (List.forall_mem_cons.mpr ⟨kh_1039_ok, (List.forall_mem_cons.mpr ⟨kh_1040_ok, (List.forall_mem_cons.mpr ⟨kh_1041_ok, (List.forall_mem_cons.mpr ⟨kh_1044_ok, (List.forall_mem_cons.mpr ⟨kh_1046_ok, (List.forall_mem_cons.mpr ⟨kh_1048_ok, (List.forall_mem_cons.mpr ⟨kh_1049_ok, (List.forall_mem_cons.mpr ⟨kh_1050_ok, (List.forall_mem_cons.mpr ⟨kh_1053_ok, (List.forall_mem_cons.mpr ⟨kh_1055_ok, (List.forall_mem_cons.mpr ⟨kh_1057_ok, (List.forall_mem_cons.mpr ⟨kh_1058_ok, (List.forall_mem_cons.mpr ⟨kh_1059_ok, (List.forall_mem_cons.mpr ⟨kh_1062_ok, (List.forall_mem_cons.mpr ⟨kh_1064_ok, (List.forall_mem_cons.mpr ⟨kh_1066_ok, (List.forall_mem_cons.mpr ⟨kh_1067_ok, (List.forall_mem_cons.mpr ⟨kh_1068_ok, (List.forall_mem_cons.mpr ⟨kh_1071_ok, (List.forall_mem_cons.mpr ⟨kh_1073_ok, (List.forall_mem_cons.mpr ⟨kh_1075_ok, (List.forall_mem_cons.mpr ⟨kh_1076_ok, (List.forall_mem_cons.mpr ⟨kh_1077_ok, (List.forall_mem_cons.mpr ⟨kh_1080_ok, (List.forall_mem_cons.mpr ⟨kh_1082_ok, (List.forall_mem_cons.mpr ⟨kh_1084_ok, (List.forall_mem_cons.mpr ⟨kh_1085_ok, (List.forall_mem_cons.mpr ⟨kh_1086_ok, (List.forall_mem_cons.mpr ⟨kh_1087_ok, (List.forall_mem_cons.mpr ⟨kh_1088_ok, (List.forall_mem_cons.mpr ⟨kh_1089_ok, (List.forall_mem_cons.mpr ⟨kh_1090_ok, (List.forall_mem_cons.mpr ⟨kh_1091_ok, (List.forall_mem_cons.mpr ⟨kh_1092_ok, (List.forall_mem_cons.mpr ⟨kh_1093_ok, (List.forall_mem_cons.mpr ⟨kh_1094_ok, (List.forall_mem_cons.mpr ⟨kh_1095_ok, (List.forall_mem_cons.mpr ⟨kh_1096_ok, (List.forall_mem_cons.mpr ⟨kh_1097_ok, (List.forall_mem_cons.mpr ⟨kh_1098_ok, (List.forall_mem_cons.mpr ⟨kh_1099_ok, (List.forall_mem_nil _)⟩)⟩)⟩)⟩)⟩)⟩)⟩)⟩)⟩)⟩)⟩)⟩)⟩)⟩)⟩)⟩)⟩)⟩)⟩)⟩)⟩)⟩)⟩)⟩)⟩)⟩)⟩)⟩)⟩)⟩)⟩)⟩)⟩)⟩)⟩)⟩)⟩)⟩)⟩)⟩)⟩)⟩)⟩)⟩)⟩)⟩)⟩)⟩)⟩)⟩)⟩)⟩)⟩)⟩)⟩)⟩)⟩)⟩)⟩)⟩)⟩)⟩)⟩)⟩) (by decide +kernel) (fun l D tc ad kd N sm xs S p e s m args below meth c sz lv G H0 => by
  have hx : xs.length = 2 := by rw [H0.2.1.1]; rfl
  have hP : ∀ (k : Nat), kh_skyGoBy_I l D tc ad kd N sm xs S p e s m args below meth c sz k := by
    intro k
    induction k with
    | zero => exact ⟨fun _ _ _ _ _ _ h => absurd h (Nat.not_lt_zero _), fun _ _ _ _ _ _ h => absurd h (Nat.not_lt_zero _), fun _ _ _ _ _ _ h => absurd h (Nat.not_lt_zero _), trivial⟩
    | succ k ih => exact ⟨kh_skyGoBy_h59 G H0 ih, kh_skyGoBy_h62 G H0 ih, kh_skyGoBy_h64 G H0 ih, trivial⟩
  obtain ⟨α1, hle, Hr⟩ := as_recM (pl := []) [((794, 794), (0, 0, 0)), ((794, 794), (1, 1, 0)), ((794, 794), (2, 2, 0)), ((794, 794), (4, 4, 0))] (by decide +kernel) H0
  have hf := H0.2.2.2.2.2.2.2.2.2.2.1
  have hl1 : α1.length = 2 := by rw [Hr.2.1.1]; rfl
  have hl0 : xs.length = 2 := by rw [H0.2.1.1]; rfl
  have hxa : al_le xs α1 := H0.1.trans hle
  obtain ⟨g1, -, g3, g4, -⟩ := as_fx Hr
  have g0 : (794 ≤ nv α1 0 ∧ nv α1 0 ≤ 794) ∧ (1 ≤ nv α1 1 ∧ nv α1 1 ≤ 1) ∧ True := by
    refine ⟨by have h := (en_nv (i := 0) Hr.2.1 rfl).2; exact h, by have h := (en_nv (i := 1) Hr.2.1 rfl).2; exact h, trivial⟩
  have r0 : nv α1 0 = nv xs 0 := nv_le hle (by omega)
  have r1 : nv α1 1 = nv xs 1 := nv_le hle (by omega)
  refine hd_segMR G (na := 2) (fuel := 600) (first := true) (Bs := [kh_skyGoBy_b0_0, kh_skyGoBy_b0_1]) (by decide +kernel) hl1 Hr ?_
  intro q hq β lv' st' S' H1
  simp only [List.mem_cons, List.not_mem_nil, or_false] at hq
  rcases hq with rfl | rfl
  · obtain ⟨f1, f2, f3, f4, f5⟩ := as_fx H1
    simp only [kh_skyGoBy_b0_0, Nat.reduceEqDiff, if_false, fx_env, fx_c, fx_ne, fx_hf, wl_S, Nat.zero_add, Nat.reduceAdd, Nat.reduceDiv, Nat.reduceMod, List.getElem?_cons_zero, List.getElem?_cons_succ, if_true, and_true, true_and] at f1 f2 f3 f4 f5
    have fe0 : nv β 0 = 794 := by omega
    have fe1 : nv β 1 = 1 := by omega
    have fe2 : nv β 2 = 3 := by omega
    have fe3 : nv β 3 = 0 := by omega
    try simp only [fe0, fe1, fe2, fe3, Int.reduceToNat] at f2 f3 f4 f5
    have s0 : nv β 0 = nv α1 0 := nv_le H1.1 (by omega)
    have s1 : nv β 1 = nv α1 1 := nv_le H1.1 (by omega)
    have c0 := f2
    obtain ⟨α', Ha, hm⟩ := hd_gpM (q := kh_skyGoBy_a59) (n := 0) (by decide +kernel) hx H1 (by decide +kernel) hxa hf
    have hfr := H1.2.2.2.2.2.2.2.2.2.2.1
    have m0 : nv α' 0 = nv β 0 := hm 0 0 rfl
    have m1 : nv α' 1 = nv β 1 := hm 1 1 rfl
    have o0 := old_i c0 (by have h := (en_nv (i := 3) H1.2.1 rfl).1; rw [fe3] at h; exact h)
    refine (hP _).1 _ _ _ _ Ha ?_ (Nat.lt_succ_self _)
    · rw [show S' = S from f5]
      have e0 : ¬ (skC S).2.1 = 1 := by show ¬ (S.1 794 3).toInt = 1; rw [o0]; omega
      refine ⟨⟨?_, rfl, ?_⟩, fun k hk => ⟨rfl, rfl⟩⟩
      · show _ = if (skC S).2.1 = 1 then _ else _
        rw [if_neg e0]; rfl
      · show _ = if (skC S).2.1 = 1 then _ else _
        rw [if_neg e0]; rfl
  · obtain ⟨f1, f2, f3, f4, f5⟩ := as_fx H1
    simp only [kh_skyGoBy_b0_1, Nat.reduceEqDiff, if_false, fx_env, fx_c, fx_ne, fx_hf, wl_S, Nat.zero_add, Nat.reduceAdd, Nat.reduceDiv, Nat.reduceMod, List.getElem?_cons_zero, List.getElem?_cons_succ, if_true, and_true, true_and] at f1 f2 f3 f4 f5
    have fe0 : nv β 0 = 794 := by omega
    have fe1 : nv β 1 = 1 := by omega
    have fe2 : nv β 2 = 3 := by omega
    have fe3 : nv β 3 = 1 := by omega
    have fe5 : nv β 5 = 4 := by omega
    have fe6 : nv β 6 = 4 := by omega
    have fe7 : nv β 7 = 31 := by omega
    have fe9 : nv β 9 = 10 := by omega
    have fe11 : nv β 11 = 0 := by omega
    have fe12 : nv β 12 = 4 := by omega
    have fe13 : nv β 13 = 31 := by omega
    have fe15 : nv β 15 = 10 := by omega
    have fe17 : nv β 17 = 1 := by omega
    have fe18 : nv β 18 = 4 := by omega
    have fe19 : nv β 19 = 310 := by omega
    have fe21 : nv β 21 = 10 := by omega
    have fe23 : nv β 23 = 2 := by omega
    try simp only [fe0, fe1, fe2, fe3, fe5, fe6, fe7, fe9, fe11, fe12, fe13, fe15, fe17, fe18, fe19, fe21, fe23, Int.reduceToNat] at f2 f3 f4 f5
    have s0 : nv β 0 = nv α1 0 := nv_le H1.1 (by omega)
    have s1 : nv β 1 = nv α1 1 := nv_le H1.1 (by omega)
    obtain ⟨c0, c1, c2, c3, c4, c5, c6, c7⟩ := f2
    obtain ⟨α', Ha, hm⟩ := hd_gpM (q := kh_skyGoBy_a59) (n := 0) (by decide +kernel) hx H1 (by decide +kernel) hxa hf
    have hfr := H1.2.2.2.2.2.2.2.2.2.2.1
    have m0 : nv α' 0 = nv β 0 := hm 0 0 rfl
    have m1 : nv α' 1 = nv β 1 := hm 1 1 rfl
    have o7 := old_i c7 (by have h := (en_nv (i := 3) H1.2.1 rfl).1; rw [fe3] at h; exact h)
    have d6 := c6
    simp only [wd_fl2, if_neg (show ¬ (wd_base1 1045 = true) by decide)] at d6
    have wA : ∀ a b : Nat, S'.1 a b = (if a = 794 ∧ b = 2 then Int32.ofInt (nv β 22) else (if a = 794 ∧ b = 1 then Int32.ofInt (nv β 16) else (if a = 794 ∧ b = 0 then Int32.ofInt (nv β 10) else (if a = 794 ∧ b = 4 then Int32.ofInt (nv β 4) else (S.1 a b))))) := fun a b => by rw [f5]; rfl
    refine (hP _).1 _ _ _ _ Ha ?_ (Nat.lt_succ_self _)
    · have e0 : (skC S).2.1 = 1 := by show (S.1 794 3).toInt = 1; rw [o7] <;> omega
      refine ⟨⟨?_, ?_, ?_⟩, fun k hk => ⟨?_, ?_⟩⟩
      · show _ = if (skC S).2.1 = 1 then nxtS (S.1 794 4).toInt % 31 - 10 else _
        rw [if_pos e0, ← d6, wA]
        (repeat' split) <;> first | (exfalso; omega) | rfl | (rw [i32_of (by omega) (by omega)] <;> omega) | omega
      · show _ = (S.1 794 3).toInt
        rw [wA]
        (repeat' split) <;> first | (exfalso; omega) | rfl | (rw [i32_of (by omega) (by omega)] <;> omega) | omega
      · show _ = if (skC S).2.1 = 1 then nxtS (S.1 794 4).toInt else _
        rw [if_pos e0, ← d6, wA]
        (repeat' split) <;> first | (exfalso; omega) | rfl | (rw [i32_of (by omega) (by omega)] <;> omega) | omega
      · rw [wA]; (repeat' split) <;> first | (exfalso; omega) | rfl | (rw [i32_of (by omega) (by omega)] <;> omega) | omega
      · rw [wA]; (repeat' split) <;> first | (exfalso; omega) | rfl | (rw [i32_of (by omega) (by omega)] <;> omega) | omega)
theorem kh_skyGoBy_ok : ct_ok wd_fl2 kh_skyGoBy := ct_okR_ok kh_skyGoBy_okR
