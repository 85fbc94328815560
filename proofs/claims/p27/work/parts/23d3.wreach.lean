/-! more of it -/
set_option maxHeartbeats 16000000 in
set_option maxRecDepth 8000 in
theorem kh_wReach2_h67_6 {l : Launch} {D : va_G} {tc : Nat → ClassId} {ad : Nat → Nat} {kd : Nat → Nat × Nat} {N : Nat} {sm : Nat → Nat} {xs : List av_X} {S : fw_S} {p : Program} {e : Env} {s : State} {m : MethodId} {args : Array Value} {below : List Frame} {meth : Method} {c : Code} {sz : Nat} {lvE : List (Nat × Value)} (G : hd_C wd_ff2 wd_fl2 kh_wReach2 [kh_heightOf, kh_low, kh_high, kh_wOpen] kh_wReach2_y l D tc ad kd N sm xs p s m args meth c sz) (H0 : as_in ad sm wd_fl2 xs S kh_wReach2.2.2.2.2.2.1 xs (hd_0 kh_wReach2) lvE [] S) {k : Nat} (ih : kh_wReach2_I l D tc ad kd N sm xs S p e s m args below meth c sz k) {α α1 β : List av_X} {lv lv' : List (Nat × Value)} {st' : List Value} {S1 S' : fw_S} (H : as_in ad sm wd_fl2 xs S kh_wReach2.2.2.2.2.2.1 α kh_wReach2_a67.2.2.1 lv [] S1) (hp : hWg (S1.1 840) (fun t => wOpP S t (nv xs 2)) ∧ wE (S1.1 840) (nv xs 1) (hgt S (nv xs 1) ≤ nv xs 2) ∧ (nv α 3 = 0 → hFg (S1.1 840) (fun t => wOpP S t (nv xs 2)) (nv α 4))) (hk : 100 * (sm_S (S1.1 840) 12).toNat + (17 - nv α 4).toNat + 60 * (nv α 3).toNat + 1 < k + 1) (hle : al_le α α1) (Hr : as_in ad sm wd_fl2 α1 S1 [((840, 840), (0, 10, 1)), ((840, 840), (1, 11, 1))] α1 (as_rec kh_wReach2_a67.2.2.1 []) lv [] S1) (H1 : as_in ad sm wd_fl2 α1 S1 [((840, 840), (0, 10, 1)), ((840, 840), (1, 11, 1))] β kh_wReach2_b67_6.2.2 lv' st' S') : hd_WR R_wReach wd_fl2 kh_wReach2 kh_wReach2_y l D tc ad kd N sm xs S p e s m args below meth c sz kh_wReach2_b67_6.1 lv' st' S' kh_wReach2_b67_6.2.1 := by
  have hx : xs.length = 3 := by rw [H0.2.1.1]; rfl
  have hf := H.2.2.2.2.2.2.2.2.2.2.1
  have hl1 : α1.length = 5 := by rw [Hr.2.1.1]; rfl
  have hl0 : α.length = 5 := by rw [H.2.1.1]; rfl
  have hxa : al_le xs α1 := H.1.trans hle
  obtain ⟨g1, -, g3, g4, -⟩ := as_fx Hr
  have g0 : (805 ≤ nv α1 0 ∧ nv α1 0 ≤ 805) ∧ (0 ≤ nv α1 1 ∧ nv α1 1 ≤ 11) ∧ ((-2147483648) ≤ nv α1 2 ∧ nv α1 2 ≤ 2147483647) ∧ (0 ≤ nv α1 3 ∧ nv α1 3 ≤ 1) ∧ (0 ≤ nv α1 4 ∧ nv α1 4 ≤ 17) ∧ True := by
    refine ⟨by have h := (en_nv (i := 0) Hr.2.1 rfl).2; exact h, by have h := (en_nv (i := 1) Hr.2.1 rfl).2; exact h, by have h := (en_nv (i := 2) Hr.2.1 rfl).2; exact h, by have h := (en_nv (i := 3) Hr.2.1 rfl).2; exact h, by have h := (en_nv (i := 4) Hr.2.1 rfl).2; exact h, trivial⟩
  have r0 : nv α1 0 = nv α 0 := nv_le hle (by omega)
  have r1 : nv α1 1 = nv α 1 := nv_le hle (by omega)
  have r2 : nv α1 2 = nv α 2 := nv_le hle (by omega)
  have r3 : nv α1 3 = nv α 3 := nv_le hle (by omega)
  have r4 : nv α1 4 = nv α 4 := nv_le hle (by omega)
  have hst := st_nil H1 rfl
  subst hst
  obtain ⟨f1, f2, f3, f4, f5⟩ := as_fx H1
  simp only [kh_wReach2_b67_6, fx_env, fx_c, fx_ne, fx_hf, wl_S, Nat.zero_add, Nat.reduceAdd, Nat.reduceDiv, Nat.reduceMod, List.getElem?_cons_zero, List.getElem?_cons_succ, if_true, and_true, true_and] at f1 f2 f3 f4 f5
  have fe0 : nv β 0 = 805 := by omega
  have fe5 : nv β 5 = 17 := by omega
  have fe6 : nv β 6 = 840 := by omega
  have fe9 : nv β 9 = 840 := by omega
  have fe12 : nv β 12 = 1 := by omega
  have fe14 : nv β 14 = 1 := by omega
  try simp only [fe0, fe5, fe6, fe9, fe12, fe14, Int.reduceToNat] at f2 f3 f4 f5
  have s0 : nv β 0 = nv α1 0 := nv_le H1.1 (by omega)
  have s1 : nv β 1 = nv α1 1 := nv_le H1.1 (by omega)
  have s2 : nv β 2 = nv α1 2 := nv_le H1.1 (by omega)
  have s3 : nv β 3 = nv α1 3 := nv_le H1.1 (by omega)
  have s4 : nv β 4 = nv α1 4 := nv_le H1.1 (by omega)
  obtain ⟨c0, c1, c2, c3, c4, c5, c6, c7, c8⟩ := f2
  obtain ⟨α', Ha, hm⟩ := hd_gpM (q := kh_wReach2_a67) (n := 0) (by decide +kernel) hx H1 (by decide +kernel) hxa hf
  have hfr := H1.2.2.2.2.2.2.2.2.2.2.1
  have m0 : nv α' 0 = nv β 0 := hm 0 0 rfl
  have m1 : nv α' 1 = nv β 1 := hm 1 1 rfl
  have m2 : nv α' 2 = nv β 2 := hm 2 2 rfl
  have m3 : nv α' 3 = nv β 3 := hm 3 3 rfl
  have m4 : nv α' 4 = nv β 16 := hm 4 16 rfl
  subst S'
  have z1 : nv α 1 = nv xs 1 := nv_le H.1 (by omega)
  have z2 : nv α 2 = nv xs 2 := nv_le H.1 (by omega)
  have e6 : S1.1 806 = S.1 806 := fr_row hf 806 (by decide +kernel)
  have e9 : S1.1 839 = S.1 839 := fr_row hf 839 (by decide +kernel)
  have d5 := fl1_b (by decide) (fl2_b (by decide) c5)
  simp only [wd_fl] at d5
  have d7 := fl1_b (by decide) (fl2_b (by decide) c7)
  simp only [wd_fl] at d7
  have oL := old_0 c6 rfl
  have oH := old_0 c4 rfl
  have ht : (((nv β 4).toNat : Nat) : Int) = nv β 4 := Int.toNat_of_nonneg (by omega)
  have hop : wOpP S1 (nv β 4) (nv β 2) ↔ wOpP S (((nv β 4).toNat : Nat) : Int) (nv xs 2) := by
    have := wOp_e (S1 := S1) (S := S) (t := (nv β 4).toNat) (h := nv xs 2) (by omega) e6 e9
    rw [ht] at this ⊢
    rw [show nv β 2 = nv xs 2 by omega]
    exact this
  have hF : nv α' 3 = 0 → hFg (S1.1 840) (fun t => wOpP S t (nv xs 2)) (nv β 4 + 1) := by
    intro hg t h1 h2 h3
    by_cases e : (t : Int) < nv α 4
    · exact hp.2.2 (by omega) t e h2 h3
    · have et : t = (nv β 4).toNat := by omega
      subst et
      rw [ht, ← d7, ← d5, oL, oH]
      omega
  refine ih.2.2.1 _ _ _ Ha ?_ ?_
  · exact ⟨hp.1, hp.2.1, fun hg => by rw [m4, show nv β 16 = nv β 4 + 1 by omega]; exact hF hg⟩
  · clear hop hF; rw [m4, m3]; omega
set_option maxHeartbeats 16000000 in
set_option maxRecDepth 8000 in
theorem kh_wReach2_h67_7 {l : Launch} {D : va_G} {tc : Nat → ClassId} {ad : Nat → Nat} {kd : Nat → Nat × Nat} {N : Nat} {sm : Nat → Nat} {xs : List av_X} {S : fw_S} {p : Program} {e : Env} {s : State} {m : MethodId} {args : Array Value} {below : List Frame} {meth : Method} {c : Code} {sz : Nat} {lvE : List (Nat × Value)} (G : hd_C wd_ff2 wd_fl2 kh_wReach2 [kh_heightOf, kh_low, kh_high, kh_wOpen] kh_wReach2_y l D tc ad kd N sm xs p s m args meth c sz) (H0 : as_in ad sm wd_fl2 xs S kh_wReach2.2.2.2.2.2.1 xs (hd_0 kh_wReach2) lvE [] S) {k : Nat} (ih : kh_wReach2_I l D tc ad kd N sm xs S p e s m args below meth c sz k) {α α1 β : List av_X} {lv lv' : List (Nat × Value)} {st' : List Value} {S1 S' : fw_S} (H : as_in ad sm wd_fl2 xs S kh_wReach2.2.2.2.2.2.1 α kh_wReach2_a67.2.2.1 lv [] S1) (hp : hWg (S1.1 840) (fun t => wOpP S t (nv xs 2)) ∧ wE (S1.1 840) (nv xs 1) (hgt S (nv xs 1) ≤ nv xs 2) ∧ (nv α 3 = 0 → hFg (S1.1 840) (fun t => wOpP S t (nv xs 2)) (nv α 4))) (hk : 100 * (sm_S (S1.1 840) 12).toNat + (17 - nv α 4).toNat + 60 * (nv α 3).toNat + 1 < k + 1) (hle : al_le α α1) (Hr : as_in ad sm wd_fl2 α1 S1 [((840, 840), (0, 10, 1)), ((840, 840), (1, 11, 1))] α1 (as_rec kh_wReach2_a67.2.2.1 []) lv [] S1) (H1 : as_in ad sm wd_fl2 α1 S1 [((840, 840), (0, 10, 1)), ((840, 840), (1, 11, 1))] β kh_wReach2_b67_7.2.2 lv' st' S') : hd_WR R_wReach wd_fl2 kh_wReach2 kh_wReach2_y l D tc ad kd N sm xs S p e s m args below meth c sz kh_wReach2_b67_7.1 lv' st' S' kh_wReach2_b67_7.2.1 := by
  have hx : xs.length = 3 := by rw [H0.2.1.1]; rfl
  have hf := H.2.2.2.2.2.2.2.2.2.2.1
  have hl1 : α1.length = 5 := by rw [Hr.2.1.1]; rfl
  have hl0 : α.length = 5 := by rw [H.2.1.1]; rfl
  have hxa : al_le xs α1 := H.1.trans hle
  obtain ⟨g1, -, g3, g4, -⟩ := as_fx Hr
  have g0 : (805 ≤ nv α1 0 ∧ nv α1 0 ≤ 805) ∧ (0 ≤ nv α1 1 ∧ nv α1 1 ≤ 11) ∧ ((-2147483648) ≤ nv α1 2 ∧ nv α1 2 ≤ 2147483647) ∧ (0 ≤ nv α1 3 ∧ nv α1 3 ≤ 1) ∧ (0 ≤ nv α1 4 ∧ nv α1 4 ≤ 17) ∧ True := by
    refine ⟨by have h := (en_nv (i := 0) Hr.2.1 rfl).2; exact h, by have h := (en_nv (i := 1) Hr.2.1 rfl).2; exact h, by have h := (en_nv (i := 2) Hr.2.1 rfl).2; exact h, by have h := (en_nv (i := 3) Hr.2.1 rfl).2; exact h, by have h := (en_nv (i := 4) Hr.2.1 rfl).2; exact h, trivial⟩
  have r0 : nv α1 0 = nv α 0 := nv_le hle (by omega)
  have r1 : nv α1 1 = nv α 1 := nv_le hle (by omega)
  have r2 : nv α1 2 = nv α 2 := nv_le hle (by omega)
  have r3 : nv α1 3 = nv α 3 := nv_le hle (by omega)
  have r4 : nv α1 4 = nv α 4 := nv_le hle (by omega)
  have hst := st_nil H1 rfl
  subst hst
  obtain ⟨f1, f2, f3, f4, f5⟩ := as_fx H1
  simp only [kh_wReach2_b67_7, fx_env, fx_c, fx_ne, fx_hf, wl_S, Nat.zero_add, Nat.reduceAdd, Nat.reduceDiv, Nat.reduceMod, List.getElem?_cons_zero, List.getElem?_cons_succ, if_true, and_true, true_and] at f1 f2 f3 f4 f5
  have fe0 : nv β 0 = 805 := by omega
  have fe5 : nv β 5 = 17 := by omega
  have fe6 : nv β 6 = 840 := by omega
  have fe9 : nv β 9 = 840 := by omega
  have fe12 : nv β 12 = 1 := by omega
  have fe14 : nv β 14 = 1 := by omega
  have fe16 : nv β 16 = 0 := by omega
  try simp only [fe0, fe5, fe6, fe9, fe12, fe14, fe16, Int.reduceToNat] at f2 f3 f4 f5
  have s0 : nv β 0 = nv α1 0 := nv_le H1.1 (by omega)
  have s1 : nv β 1 = nv α1 1 := nv_le H1.1 (by omega)
  have s2 : nv β 2 = nv α1 2 := nv_le H1.1 (by omega)
  have s3 : nv β 3 = nv α1 3 := nv_le H1.1 (by omega)
  have s4 : nv β 4 = nv α1 4 := nv_le H1.1 (by omega)
  obtain ⟨c0, c1, c2, c3, c4, c5, c6, c7, c8, c9⟩ := f2
  obtain ⟨α', Ha, hm⟩ := hd_gpM (q := kh_wReach2_a67) (n := 0) (by decide +kernel) hx H1 (by decide +kernel) hxa hf
  have hfr := H1.2.2.2.2.2.2.2.2.2.2.1
  have m0 : nv α' 0 = nv β 0 := hm 0 0 rfl
  have m1 : nv α' 1 = nv β 1 := hm 1 1 rfl
  have m2 : nv α' 2 = nv β 2 := hm 2 2 rfl
  have m3 : nv α' 3 = nv β 3 := hm 3 3 rfl
  have m4 : nv α' 4 = nv β 17 := hm 4 17 rfl
  subst S'
  have z1 : nv α 1 = nv xs 1 := nv_le H.1 (by omega)
  have z2 : nv α 2 = nv xs 2 := nv_le H.1 (by omega)
  have e6 : S1.1 806 = S.1 806 := fr_row hf 806 (by decide +kernel)
  have e9 : S1.1 839 = S.1 839 := fr_row hf 839 (by decide +kernel)
  have d0 := c0
  simp only [wd_fl2, if_neg (show ¬ (wd_base1 1021 = true) by decide)] at d0
  have d6 := fl1_b (by decide) (fl2_b (by decide) c6)
  simp only [wd_fl] at d6
  have d8 := fl1_b (by decide) (fl2_b (by decide) c8)
  simp only [wd_fl] at d8
  have oL := old_0 c7 rfl
  have oH := old_0 c5 rfl
  have ht : (((nv β 4).toNat : Nat) : Int) = nv β 4 := Int.toNat_of_nonneg (by omega)
  have hop : wOpP S1 (nv β 4) (nv β 2) ↔ wOpP S (((nv β 4).toNat : Nat) : Int) (nv xs 2) := by
    have := wOp_e (S1 := S1) (S := S) (t := (nv β 4).toNat) (h := nv xs 2) (by omega) e6 e9
    rw [ht] at this ⊢
    rw [show nv β 2 = nv xs 2 by omega]
    exact this
  have hF : nv α' 3 = 0 → hFg (S1.1 840) (fun t => wOpP S t (nv xs 2)) (nv β 4 + 1) := by
    intro hg t h1 h2 h3
    by_cases e : (t : Int) < nv α 4
    · exact hp.2.2 (by omega) t e h2 h3
    · have et : t = (nv β 4).toNat := by omega
      subst et
      exact absurd (hop.mpr h3) (b2i_0 (d0.symm.trans (by omega)))
  refine ih.2.2.1 _ _ _ Ha ?_ ?_
  · exact ⟨hp.1, hp.2.1, fun hg => by rw [m4, show nv β 17 = nv β 4 + 1 by omega]; exact hF hg⟩
  · clear hop hF; rw [m4, m3]; omega
set_option maxHeartbeats 16000000 in
set_option maxRecDepth 8000 in
theorem kh_wReach2_h67_8 {l : Launch} {D : va_G} {tc : Nat → ClassId} {ad : Nat → Nat} {kd : Nat → Nat × Nat} {N : Nat} {sm : Nat → Nat} {xs : List av_X} {S : fw_S} {p : Program} {e : Env} {s : State} {m : MethodId} {args : Array Value} {below : List Frame} {meth : Method} {c : Code} {sz : Nat} {lvE : List (Nat × Value)} (G : hd_C wd_ff2 wd_fl2 kh_wReach2 [kh_heightOf, kh_low, kh_high, kh_wOpen] kh_wReach2_y l D tc ad kd N sm xs p s m args meth c sz) (H0 : as_in ad sm wd_fl2 xs S kh_wReach2.2.2.2.2.2.1 xs (hd_0 kh_wReach2) lvE [] S) {k : Nat} (ih : kh_wReach2_I l D tc ad kd N sm xs S p e s m args below meth c sz k) {α α1 β : List av_X} {lv lv' : List (Nat × Value)} {st' : List Value} {S1 S' : fw_S} (H : as_in ad sm wd_fl2 xs S kh_wReach2.2.2.2.2.2.1 α kh_wReach2_a67.2.2.1 lv [] S1) (hp : hWg (S1.1 840) (fun t => wOpP S t (nv xs 2)) ∧ wE (S1.1 840) (nv xs 1) (hgt S (nv xs 1) ≤ nv xs 2) ∧ (nv α 3 = 0 → hFg (S1.1 840) (fun t => wOpP S t (nv xs 2)) (nv α 4))) (hk : 100 * (sm_S (S1.1 840) 12).toNat + (17 - nv α 4).toNat + 60 * (nv α 3).toNat + 1 < k + 1) (hle : al_le α α1) (Hr : as_in ad sm wd_fl2 α1 S1 [((840, 840), (0, 10, 1)), ((840, 840), (1, 11, 1))] α1 (as_rec kh_wReach2_a67.2.2.1 []) lv [] S1) (H1 : as_in ad sm wd_fl2 α1 S1 [((840, 840), (0, 10, 1)), ((840, 840), (1, 11, 1))] β kh_wReach2_b67_8.2.2 lv' st' S') : hd_WR R_wReach wd_fl2 kh_wReach2 kh_wReach2_y l D tc ad kd N sm xs S p e s m args below meth c sz kh_wReach2_b67_8.1 lv' st' S' kh_wReach2_b67_8.2.1 := by
  have hx : xs.length = 3 := by rw [H0.2.1.1]; rfl
  have hf := H.2.2.2.2.2.2.2.2.2.2.1
  have hl1 : α1.length = 5 := by rw [Hr.2.1.1]; rfl
  have hl0 : α.length = 5 := by rw [H.2.1.1]; rfl
  have hxa : al_le xs α1 := H.1.trans hle
  obtain ⟨g1, -, g3, g4, -⟩ := as_fx Hr
  have g0 : (805 ≤ nv α1 0 ∧ nv α1 0 ≤ 805) ∧ (0 ≤ nv α1 1 ∧ nv α1 1 ≤ 11) ∧ ((-2147483648) ≤ nv α1 2 ∧ nv α1 2 ≤ 2147483647) ∧ (0 ≤ nv α1 3 ∧ nv α1 3 ≤ 1) ∧ (0 ≤ nv α1 4 ∧ nv α1 4 ≤ 17) ∧ True := by
    refine ⟨by have h := (en_nv (i := 0) Hr.2.1 rfl).2; exact h, by have h := (en_nv (i := 1) Hr.2.1 rfl).2; exact h, by have h := (en_nv (i := 2) Hr.2.1 rfl).2; exact h, by have h := (en_nv (i := 3) Hr.2.1 rfl).2; exact h, by have h := (en_nv (i := 4) Hr.2.1 rfl).2; exact h, trivial⟩
  have r0 : nv α1 0 = nv α 0 := nv_le hle (by omega)
  have r1 : nv α1 1 = nv α 1 := nv_le hle (by omega)
  have r2 : nv α1 2 = nv α 2 := nv_le hle (by omega)
  have r3 : nv α1 3 = nv α 3 := nv_le hle (by omega)
  have r4 : nv α1 4 = nv α 4 := nv_le hle (by omega)
  have hst := st_nil H1 rfl
  subst hst
  obtain ⟨f1, f2, f3, f4, f5⟩ := as_fx H1
  simp only [kh_wReach2_b67_8, fx_env, fx_c, fx_ne, fx_hf, wl_S, Nat.zero_add, Nat.reduceAdd, Nat.reduceDiv, Nat.reduceMod, List.getElem?_cons_zero, List.getElem?_cons_succ, if_true, and_true, true_and] at f1 f2 f3 f4 f5
  have fe0 : nv β 0 = 805 := by omega
  have fe5 : nv β 5 = 17 := by omega
  have fe6 : nv β 6 = 840 := by omega
  have fe9 : nv β 9 = 840 := by omega
  have fe12 : nv β 12 = 1 := by omega
  have fe14 : nv β 14 = 1 := by omega
  have fe16 : nv β 16 = 1 := by omega
  have fe17 : nv β 17 = 840 := by omega
  have fe19 : nv β 19 = 1 := by omega
  have fe21 : nv β 21 = 840 := by omega
  have fe23 : nv β 23 = 1 := by omega
  have fe25 : nv β 25 = 1 := by omega
  try simp only [fe0, fe5, fe6, fe9, fe12, fe14, fe16, fe17, fe19, fe21, fe23, fe25, Int.reduceToNat] at f2 f3 f4 f5
  have s0 : nv β 0 = nv α1 0 := nv_le H1.1 (by omega)
  have s1 : nv β 1 = nv α1 1 := nv_le H1.1 (by omega)
  have s2 : nv β 2 = nv α1 2 := nv_le H1.1 (by omega)
  have s3 : nv β 3 = nv α1 3 := nv_le H1.1 (by omega)
  have s4 : nv β 4 = nv α1 4 := nv_le H1.1 (by omega)
  obtain ⟨c0, c1, c2, c3, c4, c5, c6, c7, c8, c9, c10, c11, c12, c13, c14, c15⟩ := f2
  obtain ⟨α', Ha, hm⟩ := hd_gpM (q := kh_wReach2_a67) (n := 0) (by decide +kernel) hx H1 (by decide +kernel) hxa hf
  have hfr := H1.2.2.2.2.2.2.2.2.2.2.1
  have m0 : nv α' 0 = nv β 0 := hm 0 0 rfl
  have m1 : nv α' 1 = nv β 1 := hm 1 1 rfl
  have m2 : nv α' 2 = nv β 2 := hm 2 2 rfl
  have m3 : nv α' 3 = nv β 25 := hm 3 25 rfl
  have m4 : nv α' 4 = nv β 26 := hm 4 26 rfl
  subst S'
  have z1 : nv α 1 = nv xs 1 := nv_le H.1 (by omega)
  have z2 : nv α 2 = nv xs 2 := nv_le H.1 (by omega)
  have e6 : S1.1 806 = S.1 806 := fr_row hf 806 (by decide +kernel)
  have e9 : S1.1 839 = S.1 839 := fr_row hf 839 (by decide +kernel)
  have d2 := fl1_b (by decide) (fl2_b (by decide) c2)
  simp only [wd_fl] at d2
  have d5 := fl1_b (by decide) (fl2_b (by decide) c5)
  simp only [wd_fl] at d5
  have d6 := c6
  simp only [wd_fl2, if_neg (show ¬ (wd_base1 1021 = true) by decide)] at d6
  have d12 := fl1_b (by decide) (fl2_b (by decide) c12)
  simp only [wd_fl] at d12
  have d14 := fl1_b (by decide) (fl2_b (by decide) c14)
  simp only [wd_fl] at d14
  have oL := old_0 c13 rfl
  have oH := old_0 c11 rfl
  have ht : (((nv β 4).toNat : Nat) : Int) = nv β 4 := Int.toNat_of_nonneg (by omega)
  have hop : wOpP S1 (nv β 4) (nv β 2) ↔ wOpP S (((nv β 4).toNat : Nat) : Int) (nv xs 2) := by
    have := wOp_e (S1 := S1) (S := S) (t := (nv β 4).toNat) (h := nv xs 2) (by omega) e6 e9
    rw [ht] at this ⊢
    rw [show nv β 2 = nv xs 2 by omega]
    exact this
  have hi1 : (nv β 18).toNat = (lowI ((nv β 4).toNat : Nat)).toNat := by rw [ht]; omega
  have hi2 : (nv β 22).toNat = (highI ((nv β 4).toNat : Nat)).toNat := by rw [ht]; omega
  have hopen := hop.mp (b2i_1 (d6.symm.trans (by omega)))
  have aL : (S1.1 840 (lowI ((nv β 4).toNat : Nat)).toNat).toInt = nv β 8 := by rw [ht, ← d14]; exact oL
  have aH : (S1.1 840 (highI ((nv β 4).toNat : Nat)).toNat).toInt = nv β 11 := by rw [ht, ← d12]; exact oH
  have U := h_upd (L := fun t => wOpP S t (nv xs 2)) (t := (nv β 4).toNat) (a := nv β 8) (b := nv β 11) (va := nv β 8) (vb := nv β 11) hp.1 (by omega) hopen aL aH (by omega) (by omega) (by omega) (by omega)
  have V := wE_upd (t := (nv β 4).toNat) (a := nv β 8) (b := nv β 11) (va := nv β 8) (vb := nv β 11) hp.2.1 (by omega) aL aH (by omega) (by omega) (by omega)
  have R : (fw_i (fw_i S1 840 (nv β 18).toNat (Int32.ofInt (nv β 8))) 840 (nv β 22).toNat (Int32.ofInt (nv β 11))).1 840 = rw_u (rw_u (S1.1 840) (lowI ((nv β 4).toNat : Nat)).toNat (nv β 8)) (highI ((nv β 4).toNat : Nat)).toNat (nv β 11) := by rw [fw_i_u, fw_i_u, hi1, hi2]
  have hb2 := sm_bd (n := 12) (fun j hj => rg_bd (q_rg_in (q := ((840, 840), (0, 11, 1), (0, 0, 99, 1))) (by decide +kernel) Ha) (j := j) (by omega))
  rw [R] at hb2
  refine ih.2.2.1 _ _ _ Ha ?_ ?_
  · exact ⟨by rw [R]; exact U.1, by rw [R]; exact V, fun hg => by clear hop hopen U V hp; omega⟩
  · have hU := U.2; clear hop hopen U V hp; rw [R, m4, m3]; omega
