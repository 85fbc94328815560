/-! ===== abstract numbers: bits, bounds raised and lowered ===== -/
theorem av_and_le {x y : Int32} (hy : 0 ≤ y.toInt) : 0 ≤ (x &&& y).toInt ∧ (x &&& y).toInt ≤ y.toInt := by
  have e1 : (x &&& y).toBitVec = x.toBitVec &&& y.toBitVec := rfl
  have hy2 : y.toInt = (y.toBitVec.toNat : Int) := by
    have h := BitVec.toInt_eq_toNat_cond y.toBitVec
    rw [Int32.toInt_toBitVec] at h
    split at h
    · exact h
    · have := y.toBitVec.isLt
      omega
  have hlt : y.toBitVec.toNat < 2 ^ 31 := by
    have := Int32.toInt_lt y
    omega
  have hle : (x &&& y).toBitVec.toNat ≤ y.toBitVec.toNat := by
    rw [e1, BitVec.toNat_and]
    exact Nat.and_le_right
  have h2 : (x &&& y).toInt = ((x &&& y).toBitVec.toNat : Int) := by
    rw [← Int32.toInt_toBitVec]
    exact BitVec.toInt_eq_toNat_of_lt (by omega)
  rw [h2, hy2]
  omega
def av_and (a b : av_T) : av_T := if 0 ≤ b.2.1 then av_mk 0 b.2.2.1 1 else if 0 ≤ a.2.1 then av_mk 0 a.2.2.1 1 else av_top
theorem av_and_in {a b : av_T} {x y : Int32} (ha : av_in a (0, x.toInt)) (hb : av_in b (0, y.toInt)) : av_in (av_and a b) (0, (x &&& y).toInt) := by
  obtain ⟨-, -, h3, h4, -⟩ := id ha
  obtain ⟨-, -, g3, g4, -⟩ := id hb
  dsimp only at h3 h4 g3 g4
  unfold av_and
  split
  · have := av_and_le (x := x) (y := y) (by omega)
    exact av_mk_in (fun _ _ => ⟨this.1, by omega, av_one _⟩)
  · split
    · have := av_and_le (x := y) (y := x) (by omega)
      rw [Int32.and_comm]
      exact av_mk_in (fun _ _ => ⟨this.1, by omega, av_one _⟩)
    · exact av_top_in _
def av_shl (a b : av_T) : av_T := if a.2.1 = 1 ∧ a.2.2.1 = 1 ∧ 0 ≤ b.2.1 ∧ b.2.2.1 ≤ 5 then (0, 1, 32, 1) else av_top
theorem av_shl_in {a b : av_T} {x y : Int32} (ha : av_in a (0, x.toInt)) (hb : av_in b (0, y.toInt)) : av_in (av_shl a b) (0, (x <<< (y &&& 31)).toInt) := by
  obtain ⟨-, -, h3, h4, -⟩ := id ha
  obtain ⟨-, -, g3, g4, -⟩ := id hb
  dsimp only at h3 h4 g3 g4
  unfold av_shl
  split
  · rename_i q
    obtain ⟨q1, q2, q3, q4⟩ := q
    have ex : x = 1 := Int32.toInt_inj.mp (show x.toInt = 1 by omega)
    have key : ∀ z : Int32, z = y → av_in ((0, 1, 32, 1) : av_T) (0, ((1 : Int32) <<< (z &&& 31)).toInt) := by
      intro z hz
      rcases (show y.toInt = 0 ∨ y.toInt = 1 ∨ y.toInt = 2 ∨ y.toInt = 3 ∨ y.toInt = 4 ∨ y.toInt = 5 by omega) with h | h | h | h | h | h
      · have e : z = 0 := by rw [hz]; exact Int32.toInt_inj.mp h
        subst e; exact ⟨rfl, (av_top_in _).2.1, by decide, by decide, av_one _⟩
      · have e : z = 1 := by rw [hz]; exact Int32.toInt_inj.mp h
        subst e; exact ⟨rfl, (av_top_in _).2.1, by decide, by decide, av_one _⟩
      · have e : z = 2 := by rw [hz]; exact Int32.toInt_inj.mp h
        subst e; exact ⟨rfl, (av_top_in _).2.1, by decide, by decide, av_one _⟩
      · have e : z = 3 := by rw [hz]; exact Int32.toInt_inj.mp h
        subst e; exact ⟨rfl, (av_top_in _).2.1, by decide, by decide, av_one _⟩
      · have e : z = 4 := by rw [hz]; exact Int32.toInt_inj.mp h
        subst e; exact ⟨rfl, (av_top_in _).2.1, by decide, by decide, av_one _⟩
      · have e : z = 5 := by rw [hz]; exact Int32.toInt_inj.mp h
        subst e; exact ⟨rfl, (av_top_in _).2.1, by decide, by decide, av_one _⟩
    rw [ex]
    exact key y rfl
  · exact av_top_in _
/-- at least n -/
def av_up (a : av_T) (n : Int) : Option av_T :=
  if n ≤ a.2.1 then some a else if a.2.2.2 = 0 then none
  else if a.2.1 + (a.2.2.2 : Int) * ((n - a.2.1 + ((a.2.2.2 : Int) - 1)) / (a.2.2.2 : Int)) ≤ a.2.2.1 then some (a.1, a.2.1 + (a.2.2.2 : Int) * ((n - a.2.1 + ((a.2.2.2 : Int) - 1)) / (a.2.2.2 : Int)), a.2.2.1, a.2.2.2) else none
theorem av_up_in {a : av_T} {n : Int} {x : av_X} (h : av_in a x) (hn : n ≤ x.2) : ∃ a', av_up a n = some a' ∧ av_in a' x := by
  obtain ⟨k, lo, hi, st⟩ := a
  obtain ⟨h1, h2, h3, h4, h5⟩ := h
  dsimp only at h1 h3 h4 h5
  unfold av_up
  dsimp only
  split
  · exact ⟨_, rfl, h1, h2, h3, h4, h5⟩
  · rename_i q
    split
    · rename_i q2
      subst q2
      have := Int.zero_dvd.mp h5
      omega
    · rename_i q2
      obtain ⟨m, hm⟩ := h5
      have hs : (0 : Int) < (st : Int) := by omega
      generalize hw : (n - lo + ((st : Int) - 1)) / (st : Int) = w
      have hlt : w < m + 1 := by
        rw [← hw]
        refine Int.ediv_lt_of_lt_mul hs ?_
        rw [Int.add_mul, Int.one_mul, Int.mul_comm m]
        omega
      have hle : (st : Int) * w ≤ (st : Int) * m := Int.mul_le_mul_of_nonneg_left (by omega) (by omega)
      rw [if_pos (by omega)]
      refine ⟨_, rfl, h1, h2, ?_, h4, ?_⟩
      · show lo + (st : Int) * w ≤ x.2
        omega
      · show (st : Int) ∣ x.2 - (lo + (st : Int) * w)
        have e : x.2 - (lo + (st : Int) * w) = (st : Int) * m - (st : Int) * w := by omega
        rw [e, ← Int.mul_sub]
        exact Int.dvd_mul_right _ _
/-- at most n -/
def av_dn (a : av_T) (n : Int) : Option av_T :=
  if a.2.2.1 ≤ n then some a else if n < a.2.1 then none
  else if a.2.2.2 = 0 then some (a.1, a.2.1, a.2.1, 0) else some (a.1, a.2.1, a.2.1 + (a.2.2.2 : Int) * ((n - a.2.1) / (a.2.2.2 : Int)), a.2.2.2)
theorem av_dn_in {a : av_T} {n : Int} {x : av_X} (h : av_in a x) (hn : x.2 ≤ n) : ∃ a', av_dn a n = some a' ∧ av_in a' x := by
  obtain ⟨k, lo, hi, st⟩ := a
  obtain ⟨h1, h2, h3, h4, h5⟩ := h
  dsimp only at h1 h3 h4 h5
  unfold av_dn
  dsimp only
  split
  · exact ⟨_, rfl, h1, h2, h3, h4, h5⟩
  · split
    · omega
    · split
      · rename_i q2
        subst q2
        have := Int.zero_dvd.mp h5
        exact ⟨_, rfl, h1, h2, h3, by show x.2 ≤ lo; omega, h5⟩
      · rename_i q2
        obtain ⟨m, hm⟩ := id h5
        have hs : (0 : Int) < (st : Int) := by omega
        have hle : m ≤ (n - lo) / (st : Int) := Int.le_ediv_of_mul_le hs (by rw [Int.mul_comm]; omega)
        have hle2 : (st : Int) * m ≤ (st : Int) * ((n - lo) / (st : Int)) := Int.mul_le_mul_of_nonneg_left hle (by omega)
        refine ⟨_, rfl, h1, h2, h3, ?_, h5⟩
        show x.2 ≤ lo + (st : Int) * ((n - lo) / (st : Int))
        omega
/-- both -/
def av_both (a b : av_T) : Option av_T := if a.1 = b.1 then (match av_up a b.2.1 with
  | some c => av_dn c b.2.2.1
  | none => none) else none
theorem av_both_in {a b : av_T} {x : av_X} (h : av_in a x) (hb : av_in b x) : ∃ a', av_both a b = some a' ∧ av_in a' x := by
  unfold av_both
  rw [if_pos (h.1.symm.trans hb.1)]
  obtain ⟨c, e, hc⟩ := av_up_in h hb.2.2.1
  rw [e]
  exact av_dn_in hc hb.2.2.2.1
