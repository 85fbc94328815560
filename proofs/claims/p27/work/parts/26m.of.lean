/-! ===== what a concrete run wants, behind a straight stretch ===== -/
def rl_ck (L : List (Nat × Nat × Nat × Nat)) (q : Nat × Nat × Nat × Nat) : Bool := L.any (fun r => decide (r = q)) && L.all (fun r => decide (r = q) || decide (r.1 ≠ q.1) || decide (r.2.2.1 < q.2.1) || decide (q.2.2.1 < r.2.1))
theorem rl_at {q : Nat × Nat × Nat × Nat} {L0 : List (Nat × Nat × Nat × Nat)} {d j : Nat} (hj : q.2.1 ≤ j ∧ j ≤ q.2.2.1) : ∀ L : List (Nat × Nat × Nat × Nat), rl_ck L q = true → rl_f (L ++ L0) d (d + q.1) j = some (d + (q.2.2.2 + (j - q.2.1)))
  | [], h => by
    simp [rl_ck] at h
  | r :: L, h => by
    unfold rl_f
    rw [List.cons_append, List.find?_cons]
    by_cases g : r = q
    · rw [g]
      simp [hj.1, hj.2]
    · have h2 := (Bool.and_eq_true _ _).mp h
      have h3 := List.all_eq_true.mp h2.2 r List.mem_cons_self
      have hb : (decide (d + q.1 = d + r.1) && (decide (r.2.1 ≤ j) && decide (j ≤ r.2.2.1))) = false := by
        simp only [Bool.or_eq_true, decide_eq_true_eq] at h3
        rcases h3 with ((h3 | h3) | h3) | h3
        · exact absurd h3 g
        · have : ¬ q.1 = r.1 := fun z => h3 z.symm
          simp [this]
        · have : ¬ j ≤ r.2.2.1 := by omega
          simp [this]
        · have : ¬ r.2.1 ≤ j := by omega
          simp [this]
      rw [hb]
      dsimp only
      have hL : rl_ck L q = true := by
        refine (Bool.and_eq_true _ _).mpr ⟨?_, List.all_eq_true.mpr (fun x hx => List.all_eq_true.mp h2.2 x (List.mem_cons_of_mem _ hx))⟩
        obtain ⟨x, hx, hx2⟩ := List.any_eq_true.mp h2.1
        rcases List.mem_cons.mp hx with rfl | hx
        · exact absurd (of_decide_eq_true hx2) g
        · exact List.any_eq_true.mpr ⟨x, hx, hx2⟩
      exact rl_at hj L hL
/-- the cells lo .. hi-1: lo the object itself, the others new -/
theorem cx_of {kd : Nat → Nat × Nat} {N d lo hi : Nat} {S0 : fw_S} {L L0 : List (Nat × Nat × Nat × Nat)} (hkd : ∀ k, 1 ≤ k ∧ k ≤ 803 → kd (d + k) = wd_kd k) (hN : d + hi ≤ N) (hb : 1 ≤ lo ∧ lo < hi ∧ hi ≤ 804) (hz : (∀ j, S0.1 (d + lo) j = 0) ∧ ∀ j, S0.2.1 (d + lo) j = 0) (hd : ∀ k, d + lo < k → (∀ j, S0.1 k j = 0) ∧ ∀ j, S0.2.1 k j = 0)
    (hr : (wd_rt.filter (fun q => decide (lo ≤ q.1) && decide (q.1 < hi))).all (rl_ck L) = true) : cx_ok kd N (rl_S (L ++ L0) d S0) d lo hi := by
  refine ⟨hN, hb.2.2, hb.1, fun k h1 h2 => ⟨hkd k (by omega), ?_⟩, fun q hq h1 h2 j h3 h4 => ?_⟩
  · by_cases g : k = lo
    · rw [g]
      exact hz
    · exact hd (d + k) (by omega)
  · have := List.all_eq_true.mp hr q (List.mem_filter.mpr ⟨hq, by simp [h1, h2]⟩)
    show (match rl_f (L ++ L0) d (d + q.1) j with | some v => some v | none => S0.2.2 (d + q.1) j) = _
    rw [rl_at ⟨h3, h4⟩ L this]
theorem cx_try : (cx_go 7 2 779 794 prog_9_method_1_code 400 26 ([(0, (2, 779))], [], [], [])).1 = 75 := by decide +kernel
