/-! ===== sums over a row, and what an update does to them ===== -/
def sm_S (f : Nat → Int32) : Nat → Int
  | 0 => 0
  | n + 1 => sm_S f n + (f n).toInt
theorem sm_off {f g : Nat → Int32} : ∀ {n : Nat}, (∀ j, j < n → g j = f j) → sm_S g n = sm_S f n
  | 0, _ => rfl
  | n + 1, h => by rw [sm_S, sm_S, sm_off (n := n) (fun j hj => h j (by omega)), h n (by omega)]
theorem sm_upd {f g : Nat → Int32} {j : Nat} {x : Int32} (hg : ∀ i, g i = if i = j then x else f i) : ∀ {n : Nat}, j < n → sm_S g n = sm_S f n - (f j).toInt + x.toInt
  | 0, h => by omega
  | n + 1, h => by
    rw [sm_S, sm_S, hg n]
    by_cases e : n = j
    · subst e
      rw [if_pos rfl, sm_off (f := f) (fun i hi => by rw [hg i, if_neg (by omega)])]
      omega
    · rw [if_neg e, sm_upd hg (n := n) (by omega)]
      omega
theorem sm_bd {f : Nat → Int32} {lo hi : Int} : ∀ {n : Nat}, (∀ j, j < n → lo ≤ (f j).toInt ∧ (f j).toInt ≤ hi) → (n : Int) * lo ≤ sm_S f n ∧ sm_S f n ≤ (n : Int) * hi
  | 0, _ => by simp [sm_S]
  | n + 1, h => by
    obtain ⟨h1, h2⟩ := sm_bd (n := n) (fun j hj => h j (by omega))
    obtain ⟨h3, h4⟩ := h n (by omega)
    rw [sm_S, show ((n + 1 : Nat) : Int) = (n : Int) + 1 by omega, Int.add_mul, Int.add_mul]
    omega
theorem fw_i_row {S : fw_S} {c j : Nat} {x : Int32} : ∀ i, (fw_i S c j x).1 c i = if i = j then x else S.1 c i := fun i => by simp [fw_i]
theorem fw_i_ne {S : fw_S} {c j a : Nat} {x : Int32} (h : a ≠ c) : (fw_i S c j x).1 a = S.1 a := fw_i_off h
theorem sm_i {S : fw_S} {c j n : Nat} {x : Int32} (h : j < n) : sm_S ((fw_i S c j x).1 c) n = sm_S (S.1 c) n - (S.1 c j).toInt + x.toInt := sm_upd fw_i_row h
theorem old_0 {S : fw_S} {c j k : Nat} {m : Int} (h : ct_X S c j = some (k, m)) (hk : ((wd_kd c).1 == 0 || (wd_kd c).1 == 2) = true) : (S.1 c j).toInt = m := by
  rw [Bool.or_eq_true, beq_iff_eq, beq_iff_eq] at hk
  rcases hk with g | g
  · rw [ct_0 (z := 0) (n0 := (wd_kd c).2) (by rw [← g]) (Or.inl rfl)] at h
    cases h; rfl
  · rw [ct_0 (z := 2) (n0 := (wd_kd c).2) (by rw [← g]) (Or.inr rfl)] at h
    cases h; rfl
theorem i32_of {m : Int} (h1 : -2147483648 ≤ m) (h2 : m ≤ 2147483647) : (Int32.ofInt m).toInt = m := Int32.toInt_ofInt_of_le (by omega) (by omega)
theorem rg_bd {S : fw_S} {c n : Nat} {lo hi : Int} {st : Nat} (h : rg_in S ((c, c), (0, n, 1), (0, lo, hi, st))) {j : Nat} (hj : j ≤ n) : lo ≤ (S.1 c j).toInt ∧ (S.1 c j).toInt ≤ hi := by
  have := h c j (Nat.le_refl _) (Nat.le_refl _) ⟨Nat.zero_le _, hj, Nat.one_dvd _⟩
  exact ⟨this.2.2.1, this.2.2.2.1⟩
