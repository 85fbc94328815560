/-! ===== CONSTRUCTORS whole: Stores ===== -/
theorem gw_ok_cx {S : fw_S} {N d hi : Nat} {I G : cx_W} (h : gw_ok S N) (hN : d + hi ≤ N) (hI : I.all (fun q => decide (q.1 < hi)) = true) (hG : G.all (fun q => decide (q.1 < hi)) = true) : gw_ok (cx_S I G d S) N := by
  have key : ∀ (J : cx_W) (k j : Nat), J.all (fun q => decide (q.1 < hi)) = true → N ≤ k → cx_fd J d k j = none := fun J k j hJ hk => by
    unfold cx_fd
    rw [List.find?_eq_none.mpr (fun q hq => by
      have h1 : q.1 < hi := by simpa using List.all_eq_true.mp hJ q hq
      have h2 : ¬ k = d + q.1 := by omega
      simp [h2])]
    rfl
  refine ⟨h.1, fun k hk => ⟨fun j => ?_, fun j => ?_, (h.2 k hk).2.2⟩⟩
  · show (match cx_fd I d k j with | some x => Int32.ofInt x | none => S.1 k j) = 0
    rw [key I k j hI hk]
    exact (h.2 k hk).1 j
  · show (match cx_fd G d k j with | some x => Int64.ofInt x | none => S.2.1 k j) = 0
    rw [key G k j hG hk]
    exact (h.2 k hk).2.1 j
def cx_is (a b : Nat × cx_C) : Bool := decide (a.1 = b.1) && (decide (a.2.1 = b.2.1) && (decide (a.2.2.1 = b.2.2.1) && (decide (a.2.2.2.1 = b.2.2.2.1) && decide (a.2.2.2.2 = b.2.2.2.2))))
theorem cx_is_eq {a b : Nat × cx_C} (h : cx_is a b = true) : a = b := by
  simp only [cx_is, Bool.and_eq_true, decide_eq_true_eq] at h
  exact Prod.ext h.1 (Prod.ext h.2.1 (Prod.ext h.2.2.1 (Prod.ext h.2.2.2.1 h.2.2.2.2)))
section GN
variable {l : Launch} {D : va_G} {tc : Nat → ClassId} {ad : Nat → Nat} {kd : Nat → Nat × Nat} {st : Nat → Nat} {d : Nat} {S0 : fw_S} {L0 : List (Nat × Nat × Nat × Nat)}
def ci_Stores : cx_W := [(793, 0, -1), (792, 0, -1), (791, 0, -1), (790, 0, -1), (789, 0, -1), (788, 0, -1), (787, 0, -1), (786, 0, -1), (784, 0, 200), (783, 0, 2), (782, 0, 4), (781, 0, 4)]
def cl_Stores : List (Nat × Nat × Nat × Nat) := [(779, 1, 1, 785), (785, 0, 7, 786), (779, 0, 0, 780), (780, 0, 3, 781)]
theorem ctor_Stores (hkd : ∀ k, 1 ≤ k ∧ k ≤ 803 → kd (d + k) = wd_kd k) (hok : gw_ok (rl_S L0 d S0) (d + 780)) (hz : (∀ j, S0.1 (d + 779) j = 0) ∧ ∀ j, S0.2.1 (d + 779) j = 0) :
    gw_Met l ⟨"UtilityWorks$Stores", "<init>", "()V"⟩ prog_9_method_1_code 2 2 60 26 D tc ad kd (d + 780) (d + 794) st [.ref (ad (d + 779))] (rl_S L0 d S0) (fun S' => S' = cx_S ci_Stores [] d (rl_S (cl_Stores ++ L0) d S0) ∧ gw_ok S' (d + 794)) :=
  gw_ofW (by decide +kernel) (Nat.le_of_ble_eq_true rfl) (fun sz p e s m args below meth c C0 hSt hAO hret hnm => by
    refine ctorA_Stores C0 hnm hAO hkd hok (by decide) (by decide) (by decide) (fun ad1 h1 ok1 => ?_)
    have hx : cx_ok kd (d + 794) (rl_S (cl_Stores ++ L0) d S0) d 779 794 := cx_of hkd (Nat.le_refl _) (by decide) hz (fun k hk => ⟨(hok.2 k (by omega)).1, (hok.2 k (by omega)).2.1⟩) (by decide +kernel)
    refine cx_go_in (lo := 779) (hi := 794) (oc := 7) (S := rl_S (cl_Stores ++ L0) d S0) C0 hSt rfl hx 400 26 ([(0, (2, 779))], [], [], []) (75, ([(1, (0, 8)), (0, (2, 779))], [], ci_Stores, [])) (cx_is_eq (by decide +kernel)) ?_
    exact gw_vret C0 hSt hret (by decide) h1 ⟨rfl, gw_ok_cx (hi := 794) ok1 (Nat.le_refl _) (by decide +kernel) (by decide)⟩ (by decide +kernel))
end GN
