/-! ===== YET MORE FLAGS AND RELATIONS ===== -/
def hgt (S : fw_S) (x : Int) : Int := (S.1 806 (20 + x).toNat).toInt
/-- what a pipe has room for -/
def wRm (S : fw_S) (t : Int) : Int := lkv S 1 t 1 - (S.1 839 (2 * t).toNat).toInt - (S.1 839 (2 * t + 1).toNat).toInt
abbrev wOpP (S : fw_S) (t h : Int) : Prop := leadsP S 1 t ∧ 1 ≤ wRm S t ∧ hgt S (lowI t) ≤ h ∧ hgt S (highI t) ≤ h
/-- a way of so many pipes that are open -/
def wP (S : fw_S) (h : Int) : Nat → Int → Int → Prop
  | 0, x, y => x = y ∧ hgt S x ≤ h
  | n + 1, x, y => ∃ (t : Nat) (z : Int), t ≤ 16 ∧ 0 ≤ z ∧ z ≤ 11 ∧ wOpP S t h ∧ jn t x z ∧ wP S h n z y
/-- the chosen source has water, the chosen crossing wants some, and there is a way -/
def wOK (S : fw_S) : Prop := 0 ≤ (S.1 805 46).toInt ∧ (S.1 805 46).toInt ≤ 6 ∧ 0 ≤ (S.1 805 47).toInt ∧ (S.1 805 47).toInt ≤ 11 ∧
  1 ≤ (S.1 829 (S.1 805 46).toInt.toNat).toInt ∧ 1 ≤ (S.1 832 (S.1 805 47).toInt.toNat).toInt ∧
  ∃ n : Nat, n ≤ 11 ∧ wP S (S.1 828 (S.1 805 46).toInt.toNat).toInt n (S.1 805 47).toInt (S.1 827 (S.1 805 46).toInt.toNat).toInt
theorem wRm_eq {S S' : fw_S} {t : Int} (ht : 0 ≤ t ∧ t ≤ 16) (h6 : ∀ j, j ≤ 999 → S'.1 806 j = S.1 806 j) (h9 : ∀ j, j ≤ 33 → S'.1 839 j = S.1 839 j) : wRm S' t = wRm S t := by
  unfold wRm
  rw [lkv_eq (by omega) ht (by omega) h6, h9 _ (by omega), h9 _ (by omega)]
theorem hgt_eq {S S' : fw_S} {x : Int} (hx : 0 ≤ x ∧ x ≤ 11) (h6 : ∀ j, j ≤ 999 → S'.1 806 j = S.1 806 j) : hgt S' x = hgt S x := by
  unfold hgt
  rw [h6 _ (by omega)]
theorem wOp_eq {S S' : fw_S} {t : Nat} {h : Int} (ht : t ≤ 16) (h6 : ∀ j, j ≤ 999 → S'.1 806 j = S.1 806 j) (h9 : ∀ j, j ≤ 33 → S'.1 839 j = S.1 839 j) (w : wOpP S t h) : wOpP S' t h := by
  obtain ⟨w1, w2, w3, w4⟩ := w
  have b := lh_bd t ht
  unfold wOpP leadsP
  rw [lkv_eq (by omega) (by omega) (by omega) h6, lkv_eq (by omega) (by omega) (by omega) h6, lkv_eq (by omega) (by omega) (by omega) h6, wRm_eq (by omega) h6 h9, hgt_eq (by omega) h6, hgt_eq (by omega) h6]
  exact ⟨w1, w2, w3, w4⟩
theorem wP_eq {S S' : fw_S} {h : Int} (h6 : ∀ j, j ≤ 999 → S'.1 806 j = S.1 806 j) (h9 : ∀ j, j ≤ 33 → S'.1 839 j = S.1 839 j) : ∀ {n : Nat} {x y : Int}, 0 ≤ x ∧ x ≤ 11 → wP S h n x y → wP S' h n x y
  | 0, x, y, hx, w => ⟨w.1, by rw [hgt_eq hx h6]; exact w.2⟩
  | n + 1, x, y, hx, ⟨t, z, t1, z1, z2, o, j, w⟩ => ⟨t, z, t1, z1, z2, wOp_eq t1 h6 h9 o, j, wP_eq h6 h9 ⟨z1, z2⟩ w⟩
/-- a neighbour that is nearer by one street that isn't closed -/
def ngh (S : fw_S) (x : Int) (c : Nat) : Prop := ∃ t : Nat, t ≤ 16 ∧ ¬ clP S t ∧ jn t x c ∧ (S.1 814 c).toInt + 1 = (S.1 814 x.toNat).toInt ∧ (S.1 814 c).toInt ≠ -1
def wd_base1 (c : Nat) : Bool := [10, 11, 12, 13, 14, 15, 16, 17, 500, 501, 502, 1000, 1001, 1010, 1011, 1012, 1013, 1014, 1015, 1016, 1017, 1018, 1020].contains c
def wd_ff2 : Nat → List md_T := fun g => match g with
  | 504 => [((806, 806), (0, 999, 1)), ((839, 839), (0, 33, 1)), ((827, 829), (0, 6, 1)), ((832, 832), (0, 11, 1)), ((805, 805), (46, 47, 1))]
  | g => wd_ff1 g
def wd_fl2 : fl_T := fun c r x y S => if wd_base1 c = true then wd_fl1 c r x y S else match c with
  | 504 => wOK S
  | 1019 => r = lkv S x y 1
  | 1021 => r = b2i (wOpP S x y)
  | 1022 => r = wRm S x
  | 1023 => r = hgt S x
  | 1024 => (∃ y : Nat, y < 12 ∧ ngh S x y) → 0 ≤ r ∧ r ≤ 11 ∧ (S.1 814 r.toNat).toInt + 1 = (S.1 814 x.toNat).toInt
  | _ => False
theorem wd_fl2_ok : fl_ok wd_ff2 wd_fl2 := by
  refine ⟨fun g S S' hg hk hr h => ?_, fun c r x y S S' hc h => ?_⟩
  · unfold wd_fl2 at h ⊢
    split at h
    · rename_i hb
      rw [if_pos hb]
      refine wd_fl1_ok.1 g S S' hg (fun k j hkj => hk k j ?_) hr h
      have hne : g ≠ 504 := fun e => by subst e; exact absurd hb (by decide)
      unfold wd_ff2
      split
      · exact absurd rfl hne
      · exact hkj
    · rename_i hb
      rw [if_neg hb]
      split at h
      · have k6 : ∀ j, j ≤ 999 → S'.1 806 j = S.1 806 j := fun j a => (hk 806 j (md_at_in List.mem_cons_self (by omega) a)).1
        have k9 : ∀ j, j ≤ 33 → S'.1 839 j = S.1 839 j := fun j a => (hk 839 j (md_at_in (List.mem_cons_of_mem _ List.mem_cons_self) (by omega) a)).1
        have k7 : ∀ k j, 827 ≤ k → k ≤ 829 → j ≤ 6 → S'.1 k j = S.1 k j := fun k j a b c => (hk k j ⟨_, List.mem_cons_of_mem _ (List.mem_cons_of_mem _ List.mem_cons_self), a, b, Nat.zero_le _, c, Nat.one_dvd _⟩).1
        have k2 : ∀ j, j ≤ 11 → S'.1 832 j = S.1 832 j := fun j a => (hk 832 j (md_at_in (List.mem_cons_of_mem _ (List.mem_cons_of_mem _ (List.mem_cons_of_mem _ List.mem_cons_self))) (by omega) a)).1
        have k5 : ∀ j, 46 ≤ j → j ≤ 47 → S'.1 805 j = S.1 805 j := fun j a b => (hk 805 j (md_at_in (List.mem_cons_of_mem _ (List.mem_cons_of_mem _ (List.mem_cons_of_mem _ (List.mem_cons_of_mem _ List.mem_cons_self)))) a b)).1
        obtain ⟨a1, a2, a3, a4, a5, a6, n, n1, n2⟩ := h
        unfold wOK
        rw [k5 46 (by omega) (by omega), k5 47 (by omega) (by omega), k7 829 _ (by omega) (by omega) (by omega), k2 _ (by omega), k7 828 _ (by omega) (by omega) (by omega), k7 827 _ (by omega) (by omega) (by omega)]
        exact ⟨a1, a2, a3, a4, a5, a6, n, n1, wP_eq k6 k9 ⟨a3, a4⟩ n2⟩
      all_goals first | exact h.elim | omega
  · unfold wd_fl2 at h ⊢
    split at h
    · rename_i hb
      rw [if_pos hb]
      exact wd_fl1_ok.2 c r x y S S' hc h
    · rename_i hb
      rw [if_neg hb]
      split at h
      all_goals first | exact h | exact h.elim | omega
def ct_base1 (C : ct_T) : Bool := C.2.2.2.1.all wd_base1 && C.2.2.2.2.1.all (fun q => q.2.2.2.2.1.all wd_base1 && q.2.2.2.2.2.all (fun w => wd_base1 w.1))
theorem fl2_b {c : Nat} {r x y : Int} {S : fw_S} (hc : wd_base1 c = true) (h : wd_fl2 c r x y S) : wd_fl1 c r x y S := by
  unfold wd_fl2 at h
  rw [if_pos hc] at h
  exact h
theorem fl2_o {c : Nat} {r x y : Int} {S : fw_S} (hc : wd_base1 c = true) (h : wd_fl1 c r x y S) : wd_fl2 c r x y S := by
  unfold wd_fl2
  rw [if_pos hc]
  exact h
theorem ct_post2 {ad sm : Nat → Nat} {C : ct_T} {mod : List md_T} {xs : List av_X} {S S' : fw_S} {oc : fw_O} (hb : ct_base1 C = true) (hp : ct_post ad sm wd_fl1 mod C.2.2.2.2.1 xs S oc S') : ct_post ad sm wd_fl2 mod C.2.2.2.2.1 xs S oc S' := by
  rw [ct_base1, Bool.and_eq_true] at hb
  obtain ⟨q, q1, q2, q3, q4, q5, q6, q7⟩ := hp
  have h6 := List.all_eq_true.mp hb.2 q q1
  rw [Bool.and_eq_true] at h6
  refine ⟨q, q1, q2, q3, q4, fun g hg => fl2_o (List.all_eq_true.mp h6.1 g hg) (q5 g hg), fun w hw v hv => ?_, q7⟩
  obtain ⟨x, y, x1, x2, x3⟩ := q6 w hw v hv
  exact ⟨x, y, x1, x2, fl2_o (List.all_eq_true.mp h6.2 w hw) x3⟩
theorem ct_lift2 {C : ct_T} (h : ct_ok wd_fl1 C) (hb : ct_base1 C = true) : ct_ok wd_fl2 C := by
  intro y hy l D tc ad kd N sm xs S hK h1 h2 h3 h4
  have hb1 := hb
  rw [ct_base1, Bool.and_eq_true] at hb1
  exact fw_Met_mono (h y hy l D tc ad kd N sm xs S hK h1 h2 (fun g hg => fl2_b (List.all_eq_true.mp hb1.1 g hg) (h3 g hg)) h4) (fun oc S' hp => ct_post2 hb hp)
theorem ct_lift2R {C : ct_T} {R : List av_X → fw_S → fw_O → fw_S → Prop} (h : ct_okR wd_fl1 C R) (hb : ct_base1 C = true) : ct_okR wd_fl2 C R := by
  intro y hy l D tc ad kd N sm xs S hK h1 h2 h3 h4
  have hb1 := hb
  rw [ct_base1, Bool.and_eq_true] at hb1
  exact fw_Met_mono (h y hy l D tc ad kd N sm xs S hK h1 h2 (fun g hg => fl2_b (List.all_eq_true.mp hb1.1 g hg) (h3 g hg)) h4) (fun oc S' hp => ⟨ct_post2 hb hp.1, hp.2⟩)
theorem kh_link_l2 : ct_ok wd_fl2 kh_link := ct_lift2 kh_link_ok (by decide)
theorem kh_leads_l2 : ct_ok wd_fl2 kh_leads := ct_lift2 kh_leads_ok (by decide)
theorem kh_low_l2 : ct_ok wd_fl2 kh_low := ct_lift2 kh_low_l (by decide)
theorem kh_high_l2 : ct_ok wd_fl2 kh_high := ct_lift2 kh_high_l (by decide)
theorem kh_streetBetween_l2 : ct_ok wd_fl2 kh_streetBetween := ct_lift2 kh_streetBetween_ok (by decide)
theorem kh_384_l2 : ct_ok wd_fl2 kh_384 := ct_lift2 kh_384_l (by decide)
theorem kh_hasLink_l2 : ct_ok wd_fl2 kh_hasLink := ct_lift2 kh_hasLink_ok (by decide)
theorem kh_isFine_l2 : ct_ok wd_fl2 kh_isFine := ct_lift2 kh_isFine_ok (by decide)
theorem kh_isOn_l2 : ct_ok wd_fl2 kh_isOn := ct_lift2 kh_isOn_ok (by decide)
theorem kh_291_l2 : ct_ok wd_fl2 kh_291 := ct_lift2 kh_291_l (by decide)
theorem kh_290_l2 : ct_ok wd_fl2 kh_290 := ct_lift2 kh_290_l (by decide)
theorem kh_396_l2 : ct_ok wd_fl2 kh_396 := ct_lift2 kh_396_l (by decide)
theorem kh_388_l2 : ct_ok wd_fl2 kh_388 := ct_lift2 kh_388_l (by decide)
theorem kh_389_l2 : ct_ok wd_fl2 kh_389 := ct_lift2 kh_389_l (by decide)
theorem kh_390_l2 : ct_ok wd_fl2 kh_390 := ct_lift2 kh_390_l (by decide)
theorem kh_393_l2 : ct_ok wd_fl2 kh_393 := ct_lift2 kh_393_l (by decide)
theorem kh_395_l2 : ct_ok wd_fl2 kh_395 := ct_lift2 kh_395_l (by decide)
theorem kh_ranks_l2 : ct_ok wd_fl2 kh_ranks := ct_lift2 kh_ranks_l (by decide)
theorem kh_isClosed_l2 : ct_ok wd_fl2 kh_isClosed := ct_lift2 kh_isClosed_ok (by decide)
theorem kh_farFrom_l2 : ct_ok wd_fl2 kh_farFrom := ct_lift2 kh_farFrom_ok (by decide)
theorem kh_farFrom_lR : ct_okR wd_fl2 kh_farFrom R_farFrom := ct_lift2R kh_farFrom_okR (by decide)
