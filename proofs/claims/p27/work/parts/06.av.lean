/-! ===== ABSTRACT NUMBERS: (kind, lo, hi, step); kind 0 int, 1 long, 2 a cell of the world, 3 a static row, 4 an exception's object ===== -/
abbrev av_T : Type := Nat × Int × Int × Nat
abbrev av_X : Type := Nat × Int
def av_V (ad st : Nat → Nat) (x : av_X) : Value := match x.1 with
  | 0 => .int (Int32.ofInt x.2)
  | 1 => .long (Int64.ofInt x.2)
  | 2 => .ref (ad x.2.toNat)
  | 3 => .ref (st x.2.toNat)
  | _ => .ref x.2.toNat
def av_ok (x : av_X) : Prop := match x.1 with
  | 0 => -2147483648 ≤ x.2 ∧ x.2 ≤ 2147483647
  | 1 => -9223372036854775808 ≤ x.2 ∧ x.2 ≤ 9223372036854775807
  | _ => 0 ≤ x.2
def av_in (a : av_T) (x : av_X) : Prop := x.1 = a.1 ∧ av_ok x ∧ a.2.1 ≤ x.2 ∧ x.2 ≤ a.2.2.1 ∧ (a.2.2.2 : Int) ∣ x.2 - a.2.1
/-- all of a is in b -/
def av_le (a b : av_T) : Bool := a.1 == b.1 && decide (b.2.1 ≤ a.2.1) && decide (a.2.2.1 ≤ b.2.2.1) && (if b.2.2.2 = 0 then decide (a.2.2.1 ≤ b.2.1) else a.2.2.2 % b.2.2.2 == 0 && decide ((a.2.1 - b.2.1) % (b.2.2.2 : Int) = 0))
theorem av_le_in {a b : av_T} {x : av_X} (h : av_le a b = true) (hx : av_in a x) : av_in b x := by
  obtain ⟨k, lo, hi, st⟩ := a
  obtain ⟨k', lo', hi', st'⟩ := b
  obtain ⟨h1, h2, h3, h4, h5⟩ := hx
  simp only [av_le, Bool.and_eq_true, beq_iff_eq, decide_eq_true_eq] at h
  obtain ⟨⟨⟨g1, g2⟩, g3⟩, g4⟩ := h
  dsimp only at h1 h3 h4 h5
  refine ⟨h1.trans g1, h2, Int.le_trans g2 h3, Int.le_trans h4 g3, ?_⟩
  show (st' : Int) ∣ x.2 - lo'
  by_cases hz : st' = 0
  · rw [if_pos hz, decide_eq_true_eq] at g4
    have : x.2 - lo' = 0 := by omega
    rw [this]
    exact Int.dvd_zero _
  · rw [if_neg hz, Bool.and_eq_true, beq_iff_eq, decide_eq_true_eq] at g4
    have e1 : (st' : Int) ∣ (st : Int) := Int.ofNat_dvd.mpr (Nat.dvd_of_mod_eq_zero g4.1)
    have e2 : (st' : Int) ∣ lo - lo' := Int.dvd_of_emod_eq_zero g4.2
    have e3 : x.2 - lo' = (x.2 - lo) + (lo - lo') := by omega
    rw [e3]
    exact Int.dvd_add (Int.dvd_trans e1 h5) e2
def av_top : av_T := (0, -2147483648, 2147483647, 1)
def av_ltop : av_T := (1, -9223372036854775808, 9223372036854775807, 1)
theorem av_I (x : Int32) : -2147483648 ≤ x.toInt ∧ x.toInt ≤ 2147483647 := by
  have h1 := Int32.le_toInt x
  have h2 := Int32.toInt_lt x
  omega
theorem av_L (x : Int64) : -9223372036854775808 ≤ x.toInt ∧ x.toInt ≤ 9223372036854775807 := by
  have h1 := Int64.le_toInt x
  have h2 := Int64.toInt_lt x
  omega
theorem av_one (x : Int) : ((1 : Nat) : Int) ∣ x := Int.one_dvd x
theorem av_top_in (x : Int32) : av_in av_top (0, x.toInt) := ⟨rfl, av_I x, (av_I x).1, (av_I x).2, av_one _⟩
theorem av_ltop_in (x : Int64) : av_in av_ltop (1, x.toInt) := ⟨rfl, av_L x, (av_L x).1, (av_L x).2, av_one _⟩
def av_mk (lo hi : Int) (st : Nat) : av_T := if -2147483648 ≤ lo ∧ hi ≤ 2147483647 then (0, lo, hi, st) else av_top
theorem av_mk_in {lo hi : Int} {st : Nat} {x : Int32} (h : -2147483648 ≤ lo → hi ≤ 2147483647 → lo ≤ x.toInt ∧ x.toInt ≤ hi ∧ (st : Int) ∣ x.toInt - lo) : av_in (av_mk lo hi st) (0, x.toInt) := by
  unfold av_mk
  split
  · rename_i q
    obtain ⟨h1, h2, h3⟩ := h q.1 q.2
    exact ⟨rfl, av_I x, h1, h2, h3⟩
  · exact av_top_in x
/-- an int of an abstract one is an Int32 -/
theorem av_int {a : av_T} {x : av_X} (h : av_in a x) (hk : a.1 = 0) : (Int32.ofInt x.2).toInt = x.2 := by
  obtain ⟨k, n⟩ := x
  have h1 : k = 0 := h.1.trans hk
  subst h1
  have h2 : -2147483648 ≤ n ∧ n ≤ 2147483647 := h.2.1
  exact Int32.toInt_ofInt_of_le (by omega) (by omega)
theorem av_long {a : av_T} {x : av_X} (h : av_in a x) (hk : a.1 = 1) : (Int64.ofInt x.2).toInt = x.2 := by
  obtain ⟨k, n⟩ := x
  have h1 : k = 1 := h.1.trans hk
  subst h1
  have h2 : -9223372036854775808 ≤ n ∧ n ≤ 9223372036854775807 := h.2.1
  exact Int64.toInt_ofInt_of_le (by omega) (by omega)
theorem av_wrap {n : Int} (h1 : -2147483648 ≤ n) (h2 : n ≤ 2147483647) : n.bmod (2 ^ 32) = n := Int.bmod_eq_of_le (by omega) (by omega)
-- the operations
def av_add (a b : av_T) : av_T := av_mk (a.2.1 + b.2.1) (a.2.2.1 + b.2.2.1) (Nat.gcd a.2.2.2 b.2.2.2)
theorem av_add_in {a b : av_T} {x y : Int32} (ha : av_in a (0, x.toInt)) (hb : av_in b (0, y.toInt)) : av_in (av_add a b) (0, (x + y).toInt) := by
  obtain ⟨k, lo, hi, st⟩ := a
  obtain ⟨k', lo', hi', st'⟩ := b
  obtain ⟨-, -, h3, h4, h5⟩ := ha
  obtain ⟨-, -, g3, g4, g5⟩ := hb
  dsimp only at h3 h4 h5 g3 g4 g5
  refine av_mk_in (fun q1 q2 => ?_)
  dsimp only at q1 q2 ⊢
  have e : (x + y).toInt = x.toInt + y.toInt := by rw [Int32.toInt_add]; exact av_wrap (by omega) (by omega)
  rw [e]
  refine ⟨by omega, by omega, ?_⟩
  have e1 : ((Nat.gcd st st' : Nat) : Int) ∣ (st : Int) := Int.ofNat_dvd.mpr (Nat.gcd_dvd_left st st')
  have e2 : ((Nat.gcd st st' : Nat) : Int) ∣ (st' : Int) := Int.ofNat_dvd.mpr (Nat.gcd_dvd_right st st')
  have e3 : x.toInt + y.toInt - (lo + lo') = (x.toInt - lo) + (y.toInt - lo') := by omega
  rw [e3]
  exact Int.dvd_add (Int.dvd_trans e1 h5) (Int.dvd_trans e2 g5)
def av_sub (a b : av_T) : av_T := av_mk (a.2.1 - b.2.2.1) (a.2.2.1 - b.2.1) (if (b.2.2.1 - b.2.1) % ((Nat.gcd a.2.2.2 b.2.2.2 : Nat) : Int) = 0 then Nat.gcd a.2.2.2 b.2.2.2 else 1)
theorem av_sub_in {a b : av_T} {x y : Int32} (ha : av_in a (0, x.toInt)) (hb : av_in b (0, y.toInt)) : av_in (av_sub a b) (0, (x - y).toInt) := by
  obtain ⟨k, lo, hi, st⟩ := a
  obtain ⟨k', lo', hi', st'⟩ := b
  obtain ⟨-, -, h3, h4, h5⟩ := ha
  obtain ⟨-, -, g3, g4, g5⟩ := hb
  dsimp only at h3 h4 h5 g3 g4 g5
  refine av_mk_in (fun q1 q2 => ?_)
  dsimp only at q1 q2 ⊢
  have e : (x - y).toInt = x.toInt - y.toInt := by rw [Int32.toInt_sub]; exact av_wrap (by omega) (by omega)
  rw [e]
  refine ⟨by omega, by omega, ?_⟩
  split
  · rename_i q
    have e1 : ((Nat.gcd st st' : Nat) : Int) ∣ (st : Int) := Int.ofNat_dvd.mpr (Nat.gcd_dvd_left st st')
    have e2 : ((Nat.gcd st st' : Nat) : Int) ∣ (st' : Int) := Int.ofNat_dvd.mpr (Nat.gcd_dvd_right st st')
    have e4 : ((Nat.gcd st st' : Nat) : Int) ∣ hi' - lo' := Int.dvd_of_emod_eq_zero q
    have e3 : x.toInt - y.toInt - (lo - hi') = (x.toInt - lo) - (y.toInt - lo') + (hi' - lo') := by omega
    rw [e3]
    exact Int.dvd_add (Int.dvd_sub (Int.dvd_trans e1 h5) (Int.dvd_trans e2 g5)) e4
  · exact av_one _
/-- times a number that isn't below 0 -/
def av_mulc (a : av_T) (c : Int) : av_T := av_mk (a.2.1 * c) (a.2.2.1 * c) (a.2.2.2 * c.toNat)
theorem av_mulc_in {a : av_T} {x y : Int32} (ha : av_in a (0, x.toInt)) (hc : 0 ≤ y.toInt) : av_in (av_mulc a y.toInt) (0, (x * y).toInt) := by
  obtain ⟨k, lo, hi, st⟩ := a
  obtain ⟨-, -, h3, h4, h5⟩ := ha
  dsimp only at h3 h4 h5
  have m1 : lo * y.toInt ≤ x.toInt * y.toInt := Int.mul_le_mul_of_nonneg_right h3 hc
  have m2 : x.toInt * y.toInt ≤ hi * y.toInt := Int.mul_le_mul_of_nonneg_right h4 hc
  refine av_mk_in (fun q1 q2 => ?_)
  dsimp only at q1 q2 ⊢
  have e : (x * y).toInt = x.toInt * y.toInt := by rw [Int32.toInt_mul]; exact av_wrap (Int.le_trans q1 m1) (Int.le_trans m2 q2)
  rw [e]
  refine ⟨m1, m2, ?_⟩
  have e2 : ((st * y.toInt.toNat : Nat) : Int) = (st : Int) * y.toInt := by rw [Int.natCast_mul, Int.toNat_of_nonneg hc]
  rw [e2, ← Int.sub_mul]
  exact Int.mul_dvd_mul h5 (Int.dvd_refl _)
def av_mul (a b : av_T) : av_T :=
  if b.2.1 = b.2.2.1 ∧ 0 ≤ b.2.1 then av_mulc a b.2.1
  else if a.2.1 = a.2.2.1 ∧ 0 ≤ a.2.1 then av_mulc b a.2.1
  else if 0 ≤ a.2.1 ∧ 0 ≤ b.2.1 then av_mk 0 (a.2.2.1 * b.2.2.1) 1 else av_top
theorem av_mul_in {a b : av_T} {x y : Int32} (ha : av_in a (0, x.toInt)) (hb : av_in b (0, y.toInt)) : av_in (av_mul a b) (0, (x * y).toInt) := by
  obtain ⟨-, -, h3, h4, -⟩ := id ha
  obtain ⟨-, -, g3, g4, -⟩ := id hb
  dsimp only at h3 h4 g3 g4
  unfold av_mul
  split
  · rename_i q
    have e : y.toInt = b.2.1 := by omega
    rw [← e]
    exact av_mulc_in ha (by omega)
  · split
    · rename_i q
      have e : x.toInt = a.2.1 := by omega
      rw [← e, Int32.mul_comm]
      exact av_mulc_in hb (by omega)
    · split
      · rename_i q
        have p1 : 0 ≤ x.toInt := by omega
        have p2 : 0 ≤ y.toInt := by omega
        have m0 : 0 ≤ x.toInt * y.toInt := Int.mul_nonneg p1 p2
        have m1 : x.toInt * y.toInt ≤ a.2.2.1 * b.2.2.1 := Int.mul_le_mul h4 g4 p2 (Int.le_trans p1 h4)
        refine av_mk_in (fun q1 q2 => ?_)
        have e : (x * y).toInt = x.toInt * y.toInt := by rw [Int32.toInt_mul]; exact av_wrap (by omega) (by omega)
        rw [e]
        exact ⟨m0, m1, av_one _⟩
      · exact av_top_in _
def av_div (a b : av_T) : av_T :=
  if 0 < b.2.1 then (if 0 ≤ a.2.1 then (if b.2.1 = b.2.2.1 then av_mk (a.2.1 / b.2.1) (a.2.2.1 / b.2.1) 1 else av_mk 0 a.2.2.1 1) else av_mk a.2.1 (max a.2.2.1 0) 1) else av_top
theorem av_tdiv_le {x y : Int} (hy : 0 < y) : (0 ≤ x → x.tdiv y = x / y ∧ 0 ≤ x / y ∧ x / y ≤ x) ∧ (x < 0 → x ≤ x.tdiv y ∧ x.tdiv y ≤ 0) := by
  refine ⟨fun h => ⟨Int.tdiv_eq_ediv_of_nonneg h, Int.ediv_nonneg h (by omega), Int.ediv_le_self y h⟩, fun h => ?_⟩
  have e : x.tdiv y = -((-x).tdiv y) := by rw [Int.neg_tdiv, Int.neg_neg]
  have e2 : (-x).tdiv y = (-x) / y := Int.tdiv_eq_ediv_of_nonneg (by omega)
  have e3 := Int.ediv_nonneg (a := -x) (b := y) (by omega) (by omega)
  have e4 := Int.ediv_le_self (a := -x) y (by omega)
  rw [e, e2]
  omega
theorem av_div_in {a b : av_T} {x y : Int32} (ha : av_in a (0, x.toInt)) (hb : av_in b (0, y.toInt)) : av_in (av_div a b) (0, (x / y).toInt) := by
  obtain ⟨-, -, h3, h4, -⟩ := id ha
  obtain ⟨-, -, g3, g4, -⟩ := id hb
  dsimp only at h3 h4 g3 g4
  unfold av_div
  split
  · rename_i q
    have hy : 0 < y.toInt := by omega
    have e : (x / y).toInt = x.toInt.tdiv y.toInt := Int32.toInt_div_of_ne_right x y (fun h => by rw [h] at hy; exact absurd hy (by decide))
    obtain ⟨t1, t2⟩ := av_tdiv_le (x := x.toInt) hy
    have hx := av_I x
    split
    · rename_i q2
      obtain ⟨u1, u2, u3⟩ := t1 (by omega)
      rw [← e] at u1
      split
      · rename_i q3
        have ey : y.toInt = b.2.1 := by omega
        refine av_mk_in (fun _ _ => ?_)
        rw [u1, ey]
        exact ⟨Int.ediv_le_ediv q h3, Int.ediv_le_ediv q h4, av_one _⟩
      · refine av_mk_in (fun _ _ => ?_)
        rw [u1]
        exact ⟨u2, Int.le_trans u3 h4, av_one _⟩
    · refine av_mk_in (fun _ _ => ?_)
      rw [e]
      rcases (show x.toInt < 0 ∨ 0 ≤ x.toInt by omega) with hn | hp
      · have := t2 hn
        exact ⟨by omega, by omega, av_one _⟩
      · obtain ⟨u1, u2, u3⟩ := t1 hp
        rw [u1]
        exact ⟨by omega, by omega, av_one _⟩
  · exact av_top_in _
def av_rem (a b : av_T) : av_T :=
  if 0 < b.2.1 then (if 0 ≤ a.2.1 then (if a.2.1 = a.2.2.1 ∧ b.2.1 = b.2.2.1 then av_mk (a.2.1.tmod b.2.1) (a.2.1.tmod b.2.1) 0 else av_mk 0 (min a.2.2.1 (b.2.2.1 - 1)) 1) else av_mk (1 - b.2.2.1) (b.2.2.1 - 1) 1) else av_top
theorem av_tmod {x y : Int} (hy : 0 < y) : (0 ≤ x → 0 ≤ x.tmod y ∧ x.tmod y ≤ x) ∧ (x < 0 → x ≤ x.tmod y ∧ x.tmod y ≤ 0) := by
  obtain ⟨t1, t2⟩ := av_tdiv_le (x := x) hy
  have d := Int.tmod_def x y
  have key : (x.tdiv y) * y = x - x.tmod y := by rw [d, Int.mul_comm]; omega
  refine ⟨fun h => ?_, fun h => ?_⟩
  · have := Int.tmod_nonneg y h
    have u := (t1 h).2.1
    have m0 : 0 ≤ (x.tdiv y) * y := Int.mul_nonneg (by rw [(t1 h).1]; exact u) (by omega)
    omega
  · have n1 : (-x).tmod y = -(x.tmod y) := Int.neg_tmod _ _
    have n2 := Int.tmod_nonneg y (a := -x) (by omega)
    have m0 : (x.tdiv y) * y ≤ 0 := Int.mul_nonpos_of_nonpos_of_nonneg (t2 h).2 (by omega)
    omega
theorem av_rem_eq {x y : Int32} (hy : 0 < y.toInt) : (x - x / y * y).toInt = x.toInt.tmod y.toInt := by
  have e : (x / y).toInt = x.toInt.tdiv y.toInt := Int32.toInt_div_of_ne_right x y (fun h => by rw [h] at hy; exact absurd hy (by decide))
  have hx := av_I x
  have hy2 := av_I y
  obtain ⟨t1, t2⟩ := av_tdiv_le (x := x.toInt) hy
  have d := Int.tmod_def x.toInt y.toInt
  have m := Int.tmod_lt_of_pos x.toInt hy
  have key : (x.toInt.tdiv y.toInt) * y.toInt = x.toInt - x.toInt.tmod y.toInt := by rw [d, Int.mul_comm]; omega
  have sg := av_tmod (x := x.toInt) hy
  have r : (x / y * y).toInt = x.toInt - x.toInt.tmod y.toInt := by
    rw [Int32.toInt_mul, e, key]
    rcases (show x.toInt < 0 ∨ 0 ≤ x.toInt by omega) with hn | hp
    · have := sg.2 hn
      exact av_wrap (by omega) (by omega)
    · have := sg.1 hp
      exact av_wrap (by omega) (by omega)
  rw [Int32.toInt_sub, r]
  rcases (show x.toInt < 0 ∨ 0 ≤ x.toInt by omega) with hn | hp
  · have := sg.2 hn
    rw [show x.toInt - (x.toInt - x.toInt.tmod y.toInt) = x.toInt.tmod y.toInt by omega]
    exact av_wrap (by omega) (by omega)
  · have := sg.1 hp
    rw [show x.toInt - (x.toInt - x.toInt.tmod y.toInt) = x.toInt.tmod y.toInt by omega]
    exact av_wrap (by omega) (by omega)
theorem av_rem_in {a b : av_T} {x y : Int32} (ha : av_in a (0, x.toInt)) (hb : av_in b (0, y.toInt)) : av_in (av_rem a b) (0, (x - x / y * y).toInt) := by
  obtain ⟨-, -, h3, h4, -⟩ := id ha
  obtain ⟨-, -, g3, g4, -⟩ := id hb
  dsimp only at h3 h4 g3 g4
  unfold av_rem
  split
  · rename_i q
    have hy : 0 < y.toInt := by omega
    have e := av_rem_eq (x := x) hy
    have m := Int.tmod_lt_of_pos x.toInt hy
    split
    · rename_i q2
      have hp : 0 ≤ x.toInt := by omega
      obtain ⟨n, le⟩ := (av_tmod (x := x.toInt) hy).1 hp
      split
      · rename_i q3
        have ex : x.toInt = a.2.1 := by omega
        have ey : y.toInt = b.2.1 := by omega
        refine av_mk_in (fun _ _ => ?_)
        rw [e, ex, ey]
        exact ⟨Int.le_refl _, Int.le_refl _, by rw [Int.sub_self]; exact Int.dvd_zero _⟩
      · refine av_mk_in (fun _ _ => ?_)
        rw [e]
        exact ⟨n, by omega, av_one _⟩
    · have n : -y.toInt < x.toInt.tmod y.toInt := by
        rcases (show x.toInt < 0 ∨ 0 ≤ x.toInt by omega) with hn | hp
        · have n1 : (-x.toInt).tmod y.toInt = -(x.toInt.tmod y.toInt) := Int.neg_tmod _ _
          have n2 := Int.tmod_lt_of_pos (-x.toInt) hy
          omega
        · have := Int.tmod_nonneg y.toInt hp
          omega
      refine av_mk_in (fun _ _ => ?_)
      rw [e]
      exact ⟨by omega, by omega, av_one _⟩
  · exact av_top_in _
