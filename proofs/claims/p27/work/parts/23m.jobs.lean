/-! ===== crews and jobs: what is kept when one is taken, left, ended, dropped, told ===== -/
theorem opS_le {f g : Nat → Int32} : ∀ {n : Nat}, (∀ j, j < n → mjk g j 4 < 2 → mjk f j 4 < 2) → opS g n ≤ opS f n
  | 0, _ => Int.le_refl _
  | n + 1, h => by
    have ih := opS_le (f := f) (g := g) (n := n) (fun j hj => h j (by omega))
    have hn := h n (by omega)
    rw [opS, opS]
    split <;> split <;> omega
theorem opS_bd {f : Nat → Int32} : ∀ {n : Nat}, 0 ≤ opS f n ∧ opS f n ≤ n
  | 0 => by simp [opS]
  | n + 1 => by
    have ih := opS_bd (f := f) (n := n)
    rw [opS]
    split <;> omega
section CW
variable {f g : Nat → Int32} {k j : Nat}
theorem crew_end (hf : crewF f) (h0 : g 2400 = f 2400) (h1 : g 2440 = f 2440) (hk : k < 4) (hj : j < 200) (hc : ∀ k', k' < 4 → k' ≠ k → mck g k' 3 = mck f k' 3) (hw : ∀ j' w, j' < 200 → w < 6 → (j' ≠ j ∨ (w ≠ 4 ∧ w ≠ 5)) → mjk g j' w = mjk f j' w)
    (hm : (k : Int) < (f 2400).toInt) (c1 : mck f k 3 = j) (c2 : mck g k 3 = -1) (c3 : mjk g j 4 ≠ 1) : crewF g := by
  obtain ⟨a1, a2, a3, ⟨a4, a6⟩, a5⟩ := hf
  unfold jobsN at a1 a2
  have hk1 : mjk f j 4 = 1 ∧ mjk f j 5 = k := by
    rcases a4 k hk hm with e | ⟨e1, e2, e3, e4⟩
    · omega
    · rw [show (mck f k 3).toNat = j by omega] at e3 e4
      exact ⟨e3, e4⟩
  refine ⟨by unfold jobsN; rw [h1]; exact a1, by unfold jobsN; rw [h1]; exact a2, fun j' hj' q => ?_, ⟨fun k' hk' q => ?_, fun j' hj' q => ?_⟩, ?_⟩
  · rw [hw j' 0 hj' (by omega) (Or.inr ⟨by omega, by omega⟩)] at q
    rw [hw j' 2 hj' (by omega) (Or.inr ⟨by omega, by omega⟩)]
    exact a3 j' hj' q
  · by_cases e : k' = k
    · subst e; exact Or.inl c2
    · rw [h0] at q
      rw [hc k' hk' e, h1]
      rcases a4 k' hk' q with r | ⟨r1, r2, r3, r4⟩
      · exact Or.inl r
      · have hne : (mck f k' 3).toNat ≠ j := fun e2 => by rw [e2] at r4; omega
        rw [hw _ 4 (by omega) (by omega) (Or.inl hne), hw _ 5 (by omega) (by omega) (Or.inl hne)]
        exact Or.inr ⟨r1, r2, r3, r4⟩
  · have hne : j' ≠ j := fun e => by subst e; exact c3 q
    rw [hw j' 4 hj' (by omega) (Or.inl hne)] at q
    rw [hw j' 5 hj' (by omega) (Or.inl hne), h0, h1]
    obtain ⟨r1, r2, r3, r4, r5⟩ := a6 j' hj' q
    have hk2 : (mjk f j' 5).toNat ≠ k := fun e => by rw [e] at r5; omega
    rw [hc _ (by omega) hk2]
    exact ⟨r1, r2, r3, r4, r5⟩
  · unfold opF at a5 ⊢
    rw [h1]
    refine Int.le_trans (opS_le (fun j' hj' q => ?_)) a5
    by_cases e : j' = j
    · subst e; omega
    · rw [hw j' 4 (by omega) (by omega) (Or.inl e)] at q
      exact q
theorem crew_take (hf : crewF f) (h0 : g 2400 = f 2400) (h1 : g 2440 = f 2440) (hk : k < 4) (hj : (j : Int) < (f 2440).toInt) (hc : ∀ k', k' < 4 → k' ≠ k → mck g k' 3 = mck f k' 3) (hw : ∀ j' w, j' < 200 → w < 6 → (j' ≠ j ∨ (w ≠ 4 ∧ w ≠ 5)) → mjk g j' w = mjk f j' w)
    (hm : (k : Int) < (f 2400).toInt) (c1 : mck f k 3 = -1) (c2 : mck g k 3 = j) (c3 : mjk f j 4 = 0) (c4 : mjk g j 4 = 1) (c5 : mjk g j 5 = k) : crewF g := by
  obtain ⟨a1, a2, a3, ⟨a4, a6⟩, a5⟩ := hf
  unfold jobsN at a1 a2
  refine ⟨by unfold jobsN; rw [h1]; exact a1, by unfold jobsN; rw [h1]; exact a2, fun j' hj' q => ?_, ⟨fun k' hk' q => ?_, fun j' hj' q => ?_⟩, ?_⟩
  · rw [hw j' 0 hj' (by omega) (Or.inr ⟨by omega, by omega⟩)] at q
    rw [hw j' 2 hj' (by omega) (Or.inr ⟨by omega, by omega⟩)]
    exact a3 j' hj' q
  · by_cases e : k' = k
    · subst e
      rw [c2, h1]
      exact Or.inr ⟨by omega, hj, by rw [show ((j : Int)).toNat = j by omega]; exact c4, by rw [show ((j : Int)).toNat = j by omega]; exact c5⟩
    · rw [h0] at q
      rw [hc k' hk' e, h1]
      rcases a4 k' hk' q with r | ⟨r1, r2, r3, r4⟩
      · exact Or.inl r
      · have hne : (mck f k' 3).toNat ≠ j := fun e2 => by rw [e2] at r3; omega
        rw [hw _ 4 (by omega) (by omega) (Or.inl hne), hw _ 5 (by omega) (by omega) (Or.inl hne)]
        exact Or.inr ⟨r1, r2, r3, r4⟩
  · by_cases e : j' = j
    · subst e
      rw [c5, h0, h1]
      exact ⟨by omega, hm, by omega, hj, by rw [show ((k : Int)).toNat = k by omega]; exact c2⟩
    · rw [hw j' 4 hj' (by omega) (Or.inl e)] at q
      rw [hw j' 5 hj' (by omega) (Or.inl e), h0, h1]
      obtain ⟨r1, r2, r3, r4, r5⟩ := a6 j' hj' q
      have hk2 : (mjk f j' 5).toNat ≠ k := fun e => by rw [e] at r5; omega
      rw [hc _ (by omega) hk2]
      exact ⟨r1, r2, r3, r4, r5⟩
  · unfold opF at a5 ⊢
    rw [h1]
    refine Int.le_trans (opS_le (fun j' hj' q => ?_)) a5
    by_cases e : j' = j
    · subst e; omega
    · rw [hw j' 4 (by omega) (by omega) (Or.inl e)] at q
      exact q
theorem crew_drop (hf : crewF f) (h0 : g 2400 = f 2400) (h1 : g 2440 = f 2440) (hj : j < 200) (hc : ∀ k', k' < 4 → mck g k' 3 = mck f k' 3) (hw : ∀ j' w, j' < 200 → w < 6 → (j' ≠ j ∨ w ≠ 4) → mjk g j' w = mjk f j' w)
    (c3 : mjk f j 4 ≠ 1) (c4 : mjk g j 4 = 3) : crewF g := by
  obtain ⟨a1, a2, a3, ⟨a4, a6⟩, a5⟩ := hf
  unfold jobsN at a1 a2
  refine ⟨by unfold jobsN; rw [h1]; exact a1, by unfold jobsN; rw [h1]; exact a2, fun j' hj' q => ?_, ⟨fun k' hk' q => ?_, fun j' hj' q => ?_⟩, ?_⟩
  · rw [hw j' 0 hj' (by omega) (Or.inr (by omega))] at q
    rw [hw j' 2 hj' (by omega) (Or.inr (by omega))]
    exact a3 j' hj' q
  · rw [h0] at q
    rw [hc k' hk', h1]
    rcases a4 k' hk' q with r | ⟨r1, r2, r3, r4⟩
    · exact Or.inl r
    · have hne : (mck f k' 3).toNat ≠ j := fun e2 => by rw [e2] at r3; exact c3 r3
      rw [hw _ 4 (by omega) (by omega) (Or.inl hne), hw _ 5 (by omega) (by omega) (Or.inl hne)]
      exact Or.inr ⟨r1, r2, r3, r4⟩
  · have hne : j' ≠ j := fun e => by subst e; omega
    rw [hw j' 4 hj' (by omega) (Or.inl hne)] at q
    rw [hw j' 5 hj' (by omega) (Or.inl hne), h0, h1]
    obtain ⟨r1, r2, r3, r4, r5⟩ := a6 j' hj' q
    rw [hc _ (by omega)]
    exact ⟨r1, r2, r3, r4, r5⟩
  · unfold opF at a5 ⊢
    rw [h1]
    refine Int.le_trans (opS_le (fun j' hj' q => ?_)) a5
    by_cases e : j' = j
    · subst e; omega
    · rw [hw j' 4 (by omega) (by omega) (Or.inl e)] at q
      exact q
theorem crew_add (hf : crewF f) (hr : roomF f) (h0 : g 2400 = f 2400) (h1 : (g 2440).toInt = (f 2440).toInt + 1) (hj : (f 2440).toInt = j) (hc : ∀ k', k' < 4 → mck g k' 3 = mck f k' 3) (hw : ∀ j' w, j' < 200 → w < 6 → j' ≠ j → mjk g j' w = mjk f j' w)
    (c1 : 4 ≤ mjk g j 0 → mjk g j 2 ≤ 9) (c3 : mjk g j 4 = 0) : crewF g := by
  obtain ⟨a1, a2, a3, ⟨a4, a6⟩, a5⟩ := hf
  obtain ⟨b1, b2, b3⟩ := hr
  unfold jobsN at a1 a2 b1 b2
  refine ⟨by unfold jobsN; omega, by unfold jobsN; omega, fun j' hj' q => ?_, ⟨fun k' hk' q => ?_, fun j' hj' q => ?_⟩, ?_⟩
  · by_cases e : j' = j
    · subst e; exact c1 q
    · rw [hw j' 0 hj' (by omega) e] at q
      rw [hw j' 2 hj' (by omega) e]
      exact a3 j' hj' q
  · rw [h0] at q
    rw [hc k' hk', h1]
    rcases a4 k' hk' q with r | ⟨r1, r2, r3, r4⟩
    · exact Or.inl r
    · rw [hw _ 4 (by omega) (by omega) (by omega), hw _ 5 (by omega) (by omega) (by omega)]
      exact Or.inr ⟨r1, by omega, r3, r4⟩
  · have hne : j' ≠ j := fun e => by subst e; omega
    rw [hw j' 4 hj' (by omega) hne] at q
    rw [hw j' 5 hj' (by omega) hne, h0, h1]
    obtain ⟨r1, r2, r3, r4, r5⟩ := a6 j' hj' q
    rw [hc _ (by omega)]
    exact ⟨r1, r2, r3, by omega, r5⟩
  · unfold opF at b3 ⊢
    rw [show (g 2440).toInt.toNat = j + 1 by omega]
    rw [show (f 2440).toInt.toNat = j by omega] at b3
    rw [opS]
    have := opS_le (f := f) (g := g) (n := j) (fun j' hj' q => by rw [hw j' 4 (by omega) (by omega) (by omega)] at q; exact q)
    split <;> omega
theorem crew_hire (hf : crewF f) (h0 : (g 2400).toInt = (f 2400).toInt + 1) (hk : (f 2400).toInt = k) (h1 : g 2440 = f 2440) (hc : ∀ k', k' < 4 → k' ≠ k → mck g k' 3 = mck f k' 3) (hw : ∀ j' w, j' < 200 → w < 6 → mjk g j' w = mjk f j' w)
    (c1 : mck g k 3 = -1) : crewF g := by
  obtain ⟨a1, a2, a3, ⟨a4, a6⟩, a5⟩ := hf
  unfold jobsN at a1 a2
  refine ⟨by unfold jobsN; rw [h1]; exact a1, by unfold jobsN; rw [h1]; exact a2, fun j' hj' q => ?_, ⟨fun k' hk' q => ?_, fun j' hj' q => ?_⟩, ?_⟩
  · rw [hw j' 0 hj' (by omega)] at q
    rw [hw j' 2 hj' (by omega)]
    exact a3 j' hj' q
  · by_cases e : k' = k
    · subst e; exact Or.inl c1
    · rw [hc k' hk' e, h1]
      rcases a4 k' hk' (by omega) with r | ⟨r1, r2, r3, r4⟩
      · exact Or.inl r
      · rw [hw _ 4 (by omega) (by omega), hw _ 5 (by omega) (by omega)]
        exact Or.inr ⟨r1, r2, r3, r4⟩
  · rw [hw j' 4 hj' (by omega)] at q
    rw [hw j' 5 hj' (by omega), h1]
    obtain ⟨r1, r2, r3, r4, r5⟩ := a6 j' hj' q
    rw [hc _ (by omega) (by omega)]
    exact ⟨r1, by omega, r3, r4, r5⟩
  · unfold opF at a5 ⊢
    rw [h1]
    refine Int.le_trans (opS_le (fun j' hj' q => ?_)) a5
    rw [hw j' 4 (by omega) (by omega)] at q
    exact q
end CW
/-- the row s behind writes -/
theorem row_806 {S : fw_S} {j : Nat} {v : Int} : (fw_i S 806 j (Int32.ofInt v)).1 806 = rw_u (S.1 806) j v := fw_i_u
theorem rw_u_eq {f : Nat → Int32} {j : Nat} {v : Int} (h : -2147483648 ≤ v ∧ v ≤ 2147483647) : (rw_u f j v j).toInt = v := by
  unfold rw_u
  rw [if_pos rfl]
  exact i32_of h.1 h.2
