/-! ===== A CONCRETE RUN over cells that stand: the constructors' second stretches ===== -/
/-- a value: 0 an int, 1 a long, 2 the cell d + k, 3 a static row -/
abbrev cx_V : Type := Nat × Int
abbrev cx_L : Type := List (Nat × cx_V)
/-- numbers written, newest first: cell (from d on), place, number -/
abbrev cx_W : Type := List (Nat × Nat × Int)
/-- locals, operands, ints written, longs written -/
abbrev cx_C : Type := cx_L × List cx_V × cx_W × cx_W
def cx_v (ad st : Nat → Nat) (d : Nat) (v : cx_V) : Value := match v.1 with
  | 0 => .int (Int32.ofInt v.2)
  | 1 => .long (Int64.ofInt v.2)
  | 2 => .ref (ad (d + v.2.toNat))
  | _ => .ref (st v.2.toNat)
def cx_lv (ad st : Nat → Nat) (d : Nat) (L : cx_L) : List (Nat × Value) := L.map (fun q => (q.1, cx_v ad st d q.2))
def cx_sv (ad st : Nat → Nat) (d : Nat) (s : List cx_V) : List Value := s.map (cx_v ad st d)
def cx_fd (I : cx_W) (d a j : Nat) : Option Int := (I.find? (fun q => decide (a = d + q.1) && decide (j = q.2.1))).map (fun q => q.2.2)
def cx_S (I G : cx_W) (d : Nat) (S : fw_S) : fw_S :=
  (fun a j => match cx_fd I d a j with | some x => Int32.ofInt x | none => S.1 a j, fun a j => match cx_fd G d a j with | some x => Int64.ofInt x | none => S.2.1 a j, S.2.2)
def cx_rd (I : cx_W) (k j : Nat) : Int := match I.find? (fun q => decide (k = q.1) && decide (j = q.2.1)) with
  | some q => q.2.2
  | none => 0
theorem cx_fd_rd {I : cx_W} {d k j : Nat} : cx_fd I d (d + k) j = (I.find? (fun q => decide (k = q.1) && decide (j = q.2.1))).map (fun q => q.2.2) := by
  unfold cx_fd
  congr 2
  funext q
  rw [show decide (d + k = d + q.1) = decide (k = q.1) from by
    by_cases h : k = q.1
    · simp [h]
    · have : ¬ d + k = d + q.1 := by omega
      simp [h, this]]
theorem cx_rd_in {I G : cx_W} {d k j : Nat} {S : fw_S} (h : S.1 (d + k) j = 0) : (cx_S I G d S).1 (d + k) j = Int32.ofInt (cx_rd I k j) := by
  show (match cx_fd I d (d + k) j with | some x => Int32.ofInt x | none => S.1 (d + k) j) = _
  rw [cx_fd_rd]
  unfold cx_rd
  cases hf : I.find? (fun q => decide (k = q.1) && decide (j = q.2.1)) with
  | none => exact h
  | some q => rfl
theorem cx_wr {I G : cx_W} {d k j : Nat} {x : Int} {S : fw_S} : fw_i (cx_S I G d S) (d + k) j (Int32.ofInt x) = cx_S ((k, j, x) :: I) G d S := by
  refine Prod.ext (funext fun a => funext fun i => ?_) rfl
  show (if a = d + k ∧ i = j then Int32.ofInt x else match cx_fd I d a i with | some x => Int32.ofInt x | none => S.1 a i) = match cx_fd ((k, j, x) :: I) d a i with | some x => Int32.ofInt x | none => S.1 a i
  unfold cx_fd
  rw [List.find?_cons]
  by_cases g : a = d + k ∧ i = j
  · rw [if_pos g, g.1, g.2]
    simp
  · rw [if_neg g]
    have hb : (decide (a = d + k) && decide (i = j)) = false := by
      by_cases g1 : a = d + k
      · have : ¬ i = j := fun q => g ⟨g1, q⟩
        simp [this]
      · simp [g1]
    dsimp only
    rw [hb]
theorem cx_wrl {I G : cx_W} {d k j : Nat} {x : Int} {S : fw_S} : fw_l (cx_S I G d S) (d + k) j (Int64.ofInt x) = cx_S I ((k, j, x) :: G) d S := by
  refine Prod.ext rfl (Prod.ext (funext fun a => funext fun i => ?_) rfl)
  show (if a = d + k ∧ i = j then Int64.ofInt x else match cx_fd G d a i with | some x => Int64.ofInt x | none => S.2.1 a i) = match cx_fd ((k, j, x) :: G) d a i with | some x => Int64.ofInt x | none => S.2.1 a i
  unfold cx_fd
  rw [List.find?_cons]
  by_cases g : a = d + k ∧ i = j
  · rw [if_pos g, g.1, g.2]
    simp
  · rw [if_neg g]
    have hb : (decide (a = d + k) && decide (i = j)) = false := by
      by_cases g1 : a = d + k
      · have : ¬ i = j := fun q => g ⟨g1, q⟩
        simp [this]
      · simp [g1]
    dsimp only
    rw [hb]
theorem cx_nil {d : Nat} {S : fw_S} : cx_S [] [] d S = S := rfl
/-- what is wanted of the cells lo .. hi-1, from d on -/
def cx_ok (kd : Nat → Nat × Nat) (N : Nat) (S : fw_S) (d lo hi : Nat) : Prop :=
  d + hi ≤ N ∧ hi ≤ 804 ∧ 1 ≤ lo ∧ (∀ k, lo ≤ k → k < hi → kd (d + k) = wd_kd k ∧ (∀ j, S.1 (d + k) j = 0) ∧ (∀ j, S.2.1 (d + k) j = 0)) ∧
  ∀ q ∈ wd_rt, lo ≤ q.1 → q.1 < hi → ∀ j, q.2.1 ≤ j → j ≤ q.2.2.1 → S.2.2 (d + q.1) j = some (d + (q.2.2.2 + (j - q.2.1)))
def cx_ld (L : cx_L) (i : Nat) : Option cx_V := (L.find? (fun q => decide (q.1 = i))).map (fun q => q.2)
def cx_put (L : cx_L) (i : Nat) (v : cx_V) : cx_L := (i, v) :: L.filter (fun q => !(q.1 == i))
theorem cx_ld_in {ad st : Nat → Nat} {d i : Nat} {L : cx_L} {v : cx_V} (h : cx_ld L i = some v) : (i, cx_v ad st d v) ∈ cx_lv ad st d L := by
  unfold cx_ld at h
  cases hf : L.find? (fun q => decide (q.1 = i)) with
  | none => rw [hf] at h; cases h
  | some q =>
    rw [hf] at h
    cases h
    have h1 := List.mem_of_find?_eq_some hf
    have h2 : q.1 = i := by simpa using List.find?_some hf
    exact List.mem_map.mpr ⟨q, h1, by rw [h2]⟩
