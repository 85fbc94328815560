/-! ===== MORE FLAGS AND RELATIONS ===== -/
def b2i (p : Prop) [Decidable p] : Int := if p then 1 else 0
def lkv (S : fw_S) (g s k : Int) : Int := (S.1 806 (140 + 4 * (17 * g + s) + k).toNat).toInt
abbrev leadsP (S : fw_S) (g s : Int) : Prop := lkv S g s 0 = 1 ∧ lkv S g s 2 = 1 ∧ lkv S g s 3 = 1
/-- every distance that isn't 0 comes of a neighbour's -/
def hWit (S : fw_S) (x : Nat) (d e : Int) : Prop := ∃ t : Nat, t ≤ 16 ∧ leadsP S 2 t ∧ ((lowI t = x ∧ (S.1 854 (highI t).toNat).toInt + e = d) ∨ (highI t = x ∧ (S.1 854 (lowI t).toNat).toInt + e = d))
def hPred (S : fw_S) : Prop := ∀ x : Nat, x < 12 → (S.1 854 x).toInt = 99 ∨ (S.1 854 x).toInt = 0 ∨ (1 ≤ (S.1 854 x).toInt ∧ (S.1 854 x).toInt ≤ 11 ∧ hWit S x (S.1 854 x).toInt 1)
/-- a street joins two crossings -/
def jn (t : Nat) (x y : Int) : Prop := lowI t = x ∧ highI t = y ∨ lowI t = y ∧ highI t = x
def sbP (r x y : Int) : Prop := (r = -1 ∧ ∀ t : Nat, t ≤ 16 → ¬ jn t x y) ∨ (0 ≤ r ∧ r ≤ 16 ∧ jn r.toNat x y)
def nxh (S : fw_S) (r x : Int) : Prop := leadsP S 2 r ∧ ((lowI r = x ∧ (S.1 854 (highI r).toNat).toInt + 1 = (S.1 854 x.toNat).toInt) ∨ (highI r = x ∧ (S.1 854 (lowI r).toNat).toInt + 1 = (S.1 854 x.toNat).toInt))
/-- what boiler way / 12 can still make -/
def hLeft (S : fw_S) (w : Int) : Int := (S.1 846 (w / 12).toNat).toInt - (S.1 847 (w / 12).toNat).toInt
/-- what was chosen to be sent can be made -/
def hChosen (S : fw_S) : Prop := 1 ≤ (S.1 805 62).toInt ∧ (S.1 805 62).toInt ≤ hLeft S (S.1 805 61).toInt ∧ 0 ≤ (S.1 805 61).toInt ∧ (S.1 805 61).toInt ≤ 23
/-- no boiler makes more than it can, nor than its fuel allows -/
def hFits (S : fw_S) : Prop := ∀ b : Nat, b < 2 → (S.1 847 b).toInt ≤ (S.1 846 b).toInt ∧ ((b : Int) < (S.1 806 1200).toInt → (S.1 846 b).toInt ≤ 10 * (S.1 806 (1203 + 5 * b)).toInt)
abbrev clP (S : fw_S) (x : Int) : Prop := (S.1 806 (66 + x).toNat).toInt = 1 ∨ (S.1 806 (83 + x).toNat).toInt = 1
def wd_base (c : Nat) : Bool := [10, 11, 12, 13, 14, 15, 16, 1000, 1001].contains c
def wd_ff1 : Nat → List md_T := fun g => match g with
  | 500 => [((854, 854), (0, 11, 1)), ((806, 806), (0, 999, 1))]
  | 501 => [((846, 847), (0, 1, 1)), ((805, 805), (61, 62, 1))]
  | 502 => [((846, 847), (0, 1, 1)), ((806, 806), (1200, 1208, 1))]
  | _ => []
def wd_fl1 : fl_T := fun c r x y S => if wd_base c = true then wd_fl c r x y S else match c with
  | 500 => hPred S
  | 501 => hChosen S
  | 502 => hFits S
  | 1018 => r = ((S.1 847 x.toNat).toInt + 9) / 10
  | 1020 => r = b2i ((S.1 806 (66 + x).toNat).toInt = 1)
  | 1017 => r ≤ 10 * (S.1 806 (1203 + 5 * x).toNat).toInt
  | 1016 => r = 0 ∨ (1 ≤ r ∧ r ≤ hLeft S x)
  | 17 => sbP r x y
  | 1014 => hWit S x.toNat (S.1 854 x.toNat).toInt 1 → 0 ≤ r ∧ r ≤ 16 ∧ nxh S r x
  | 1015 => r = b2i (clP S x)
  | 1010 => r = b2i (lkv S x y 0 = 1)
  | 1011 => r = b2i (lkv S x y 0 = 1 ∧ lkv S x y 2 = 1)
  | 1012 => r = b2i (lkv S x y 0 = 1 ∧ lkv S x y 3 = 1)
  | 1013 => r = b2i (leadsP S x y)
  | _ => False
theorem lkv_eq {S S' : fw_S} {g s k : Int} (hg : 0 ≤ g ∧ g ≤ 2) (hs : 0 ≤ s ∧ s ≤ 16) (hk : 0 ≤ k ∧ k ≤ 3) (h : ∀ j, j ≤ 999 → S'.1 806 j = S.1 806 j) : lkv S' g s k = lkv S g s k := by
  unfold lkv
  rw [h _ (by omega)]
theorem hPred_eq {S S' : fw_S} (h1 : ∀ j, j ≤ 11 → S'.1 854 j = S.1 854 j) (h2 : ∀ j, j ≤ 999 → S'.1 806 j = S.1 806 j) (h : hPred S) : hPred S' := by
  intro x hx
  rw [h1 x (by omega)]
  rcases h x hx with g | g | ⟨g1, g2, t, t1, t2, t3⟩
  · exact Or.inl g
  · exact Or.inr (Or.inl g)
  · refine Or.inr (Or.inr ⟨g1, g2, t, t1, ?_, ?_⟩)
    · unfold leadsP at t2 ⊢
      rw [lkv_eq (by omega) (by omega) (by omega) h2, lkv_eq (by omega) (by omega) (by omega) h2, lkv_eq (by omega) (by omega) (by omega) h2]
      exact t2
    · have e1 : (highI t).toNat ≤ 11 := by unfold highI lowI; (repeat' split) <;> omega
      have e2 : (lowI t).toNat ≤ 11 := by unfold lowI; (repeat' split) <;> omega
      rw [h1 _ e1, h1 _ e2]
      exact t3
theorem md_at_in {ms : List md_T} {c lo hi k : Nat} (h : ((c, c), (lo, hi, 1)) ∈ ms) (h1 : lo ≤ k) (h2 : k ≤ hi) : md_at ms c k := ⟨_, h, Nat.le_refl _, Nat.le_refl _, h1, h2, Nat.one_dvd _⟩
theorem wd_fl1_ok : fl_ok wd_ff1 wd_fl1 := by
  refine ⟨fun g S S' hg hk hr h => ?_, fun c r x y S S' hc h => ?_⟩
  · unfold wd_fl1 at h ⊢
    split at h
    · rename_i hb
      rw [if_pos hb]
      exact wd_fl_ok.1 g S S' hg (fun k j hkj => by obtain ⟨d, d1, -⟩ := hkj; cases d1) hr h
    · rename_i hb
      rw [if_neg hb]
      split at h
      · exact hPred_eq (fun j hj => (hk 854 j (md_at_in List.mem_cons_self (by omega) hj)).1) (fun j hj => (hk 806 j (md_at_in (List.mem_cons_of_mem _ List.mem_cons_self) (by omega) hj)).1) h
      · have k1 : ∀ k j, 846 ≤ k → k ≤ 847 → j ≤ 1 → S'.1 k j = S.1 k j := fun k j a b c => (hk k j ⟨_, List.mem_cons_self, a, b, Nat.zero_le _, c, Nat.one_dvd _⟩).1
        have k2 : ∀ j, 61 ≤ j → j ≤ 62 → S'.1 805 j = S.1 805 j := fun j a b => (hk 805 j (md_at_in (List.mem_cons_of_mem _ List.mem_cons_self) a b)).1
        unfold hChosen hLeft at h ⊢
        rw [k2 61 (by omega) (by omega), k2 62 (by omega) (by omega), k1 846 _ (by omega) (by omega) (by omega), k1 847 _ (by omega) (by omega) (by omega)]
        exact h
      · have k1 : ∀ k j, 846 ≤ k → k ≤ 847 → j ≤ 1 → S'.1 k j = S.1 k j := fun k j a b c => (hk k j ⟨_, List.mem_cons_self, a, b, Nat.zero_le _, c, Nat.one_dvd _⟩).1
        have k2 : ∀ j, 1200 ≤ j → j ≤ 1208 → S'.1 806 j = S.1 806 j := fun j a b => (hk 806 j (md_at_in (List.mem_cons_of_mem _ List.mem_cons_self) a b)).1
        intro b hb
        rw [k1 846 b (by omega) (by omega) (by omega), k1 847 b (by omega) (by omega) (by omega), k2 1200 (by omega) (by omega), k2 (1203 + 5 * b) (by omega) (by omega)]
        exact h b hb
      all_goals first | exact h.elim | omega
  · unfold wd_fl1 at h ⊢
    split at h
    · rename_i hb
      rw [if_pos hb]
      exact wd_fl_ok.2 c r x y S S' hc h
    · rename_i hb
      rw [if_neg hb]
      split at h
      all_goals first | exact h | exact h.elim | omega
def ct_base (C : ct_T) : Bool := C.2.2.2.1.isEmpty && C.2.2.2.2.1.all (fun q => q.2.2.2.2.1.isEmpty && q.2.2.2.2.2.all (fun w => wd_base w.1))
theorem ct_lift {C : ct_T} (h : ct_ok wd_fl C) (hb : ct_base C = true) : ct_ok wd_fl1 C := by
  intro y hy l D tc ad kd N sm xs S hK h1 h2 h3 h4
  rw [ct_base, Bool.and_eq_true] at hb
  have h5 := h y hy l D tc ad kd N sm xs S hK h1 h2 (fun g hg => by rw [List.isEmpty_iff.mp hb.1] at hg; cases hg) h4
  refine fw_Met_mono h5 (fun oc S' hp => ?_)
  obtain ⟨q, q1, q2, q3, q4, q5, q6, q7⟩ := hp
  have h6 := List.all_eq_true.mp hb.2 q q1
  rw [Bool.and_eq_true] at h6
  refine ⟨q, q1, q2, q3, q4, fun g hg => by (rw [List.isEmpty_iff.mp h6.1] at hg; cases hg), fun w hw v hv => ?_, q7⟩
  obtain ⟨x, y, x1, x2, x3⟩ := q6 w hw v hv
  refine ⟨x, y, x1, x2, ?_⟩
  unfold wd_fl1
  rw [if_pos (List.all_eq_true.mp h6.2 w hw)]
  exact x3
theorem fl1_b {c : Nat} {r x y : Int} {S : fw_S} (hc : wd_base c = true) (h : wd_fl1 c r x y S) : wd_fl c r x y S := by
  unfold wd_fl1 at h
  rw [if_pos hc] at h
  exact h
theorem fl1_o {c : Nat} {r x y : Int} {S : fw_S} (hc : wd_base c = true) (h : wd_fl c r x y S) : wd_fl1 c r x y S := by
  unfold wd_fl1
  rw [if_pos hc]
  exact h
theorem kh_low_l : ct_ok wd_fl1 kh_low := ct_lift kh_low_ok (by decide)
theorem kh_high_l : ct_ok wd_fl1 kh_high := ct_lift kh_high_ok (by decide)
theorem kh_389_l : ct_ok wd_fl1 kh_389 := ct_lift kh_389_ok (by decide)
theorem kh_390_l : ct_ok wd_fl1 kh_390 := ct_lift kh_390_ok (by decide)
theorem kh_396_l : ct_ok wd_fl1 kh_396 := ct_lift kh_396_ok (by decide)
theorem kh_393_l : ct_ok wd_fl1 kh_393 := ct_lift kh_393_ok (by decide)
theorem kh_395_l : ct_ok wd_fl1 kh_395 := ct_lift kh_395_ok (by decide)
theorem kh_ranks_l : ct_ok wd_fl1 kh_ranks := ct_lift kh_ranks_ok (by decide)
theorem kh_384_l : ct_ok wd_fl1 kh_384 := ct_lift kh_384_ok (by decide)
theorem kh_291_l : ct_ok wd_fl1 kh_291 := ct_lift kh_291_ok (by decide)
theorem kh_290_l : ct_ok wd_fl1 kh_290 := ct_lift kh_290_ok (by decide)
theorem kh_388_l : ct_ok wd_fl1 kh_388 := ct_lift kh_388_ok (by decide)
theorem kh_reachFrom_l : ct_ok wd_fl1 kh_reachFrom := ct_lift kh_reachFrom_ok (by decide)
