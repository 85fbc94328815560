/-! ===== ABSTRACT STATES: places read and written, bounds sharpened ===== -/
/-- all of a in b -/
def pg_le (a b : Nat × Nat × Nat) : Bool := decide (b.1 ≤ a.1) && decide (a.2.1 ≤ b.2.1) && (b.2.2 == 1 || ((a.1 - b.1) % b.2.2 == 0 && (a.1 == a.2.1 || a.2.2 % b.2.2 == 0)))
theorem pg_le_in {a b : Nat × Nat × Nat} {j : Nat} (h : pg_le a b = true) (hj : pg_in a j) : pg_in b j := by
  obtain ⟨lo, hi, st⟩ := a
  obtain ⟨lo', hi', st'⟩ := b
  obtain ⟨h1, h2, h3⟩ := hj
  simp only [pg_le, Bool.and_eq_true, Bool.or_eq_true, decide_eq_true_eq, beq_iff_eq] at h
  obtain ⟨⟨g1, g2⟩, g3⟩ := h
  dsimp only at h1 h2 h3 g1 g2 g3
  refine ⟨Nat.le_trans g1 h1, Nat.le_trans h2 g2, ?_⟩
  show st' ∣ j - lo'
  rcases g3 with g | ⟨g3, g | g⟩
  · rw [g]
    exact Nat.one_dvd _
  · have : j = lo := by omega
    rw [this]
    exact Nat.dvd_of_mod_eq_zero g3
  · have e : j - lo' = (j - lo) + (lo - lo') := by omega
    rw [e]
    exact Nat.dvd_add (Nat.dvd_trans (Nat.dvd_of_mod_eq_zero g) h3) (Nat.dvd_of_mod_eq_zero g3)
/-- no place in both -/
def pg_no (a b : Nat × Nat × Nat) : Bool := decide (a.2.1 < b.1) || decide (b.2.1 < a.1) || (if Nat.gcd a.2.2 b.2.2 = 0 then a.1 != b.1 else a.1 % Nat.gcd a.2.2 b.2.2 != b.1 % Nat.gcd a.2.2 b.2.2)
theorem pg_no_in {a b : Nat × Nat × Nat} {j : Nat} (h : pg_no a b = true) (h1 : pg_in a j) (h2 : pg_in b j) : False := by
  obtain ⟨lo, hi, st⟩ := a
  obtain ⟨lo', hi', st'⟩ := b
  obtain ⟨p1, p2, p3⟩ := h1
  obtain ⟨q1, q2, q3⟩ := h2
  dsimp only at p1 p2 p3 q1 q2 q3
  simp only [pg_no, Bool.or_eq_true, decide_eq_true_eq] at h
  rcases h with (h | h) | h
  · omega
  · omega
  · have d1 : Nat.gcd st st' ∣ j - lo := Nat.dvd_trans (Nat.gcd_dvd_left _ _) p3
    have d2 : Nat.gcd st st' ∣ j - lo' := Nat.dvd_trans (Nat.gcd_dvd_right _ _) q3
    split at h
    · rename_i g
      rw [g] at d1 d2
      have e1 := Nat.zero_dvd.mp d1
      have e2 := Nat.zero_dvd.mp d2
      have : lo = lo' := by omega
      simp [this] at h
    · have e1 : j % Nat.gcd st st' = lo % Nat.gcd st st' := by
        have : j = lo + (j - lo) := by omega
        rw [this, Nat.add_mod, Nat.mod_eq_zero_of_dvd d1, Nat.add_zero, Nat.mod_mod]
      have e2 : j % Nat.gcd st st' = lo' % Nat.gcd st st' := by
        have : j = lo' + (j - lo') := by omega
        rw [this, Nat.add_mod, Nat.mod_eq_zero_of_dvd d2, Nat.add_zero, Nat.mod_mod]
      rw [← e1, ← e2] at h
      simp at h
/-- the places that an index may be -/
def pg_of (a : av_T) : Nat × Nat × Nat := (a.2.1.toNat, a.2.2.1.toNat, a.2.2.2)
theorem pg_of_in {a : av_T} {k : Nat} {m : Int} (h : av_in a (k, m)) (h0 : 0 ≤ a.2.1) : pg_in (pg_of a) m.toNat := by
  obtain ⟨k', lo, hi, st⟩ := a
  obtain ⟨-, -, h3, h4, h5⟩ := h
  dsimp only at h3 h4 h5 h0
  refine ⟨by show lo.toNat ≤ m.toNat; omega, by show m.toNat ≤ hi.toNat; omega, ?_⟩
  show st ∣ m.toNat - lo.toNat
  have e : ((m.toNat - lo.toNat : Nat) : Int) = m - lo := by omega
  exact Int.ofNat_dvd.mp (by rw [e]; exact h5)
def rg_has (q : rg_T) (c1 c2 : Nat) (p : Nat × Nat × Nat) : Bool := decide (q.1.1 ≤ c1) && decide (c2 ≤ q.1.2) && pg_le p q.2.1
def rg_off (q : rg_T) (c1 c2 : Nat) (p : Nat × Nat × Nat) : Bool := decide (q.1.2 < c1) || decide (c2 < q.1.1) || pg_no q.2.1 p
def md_has (q : md_T) (c1 c2 : Nat) (p : Nat × Nat × Nat) : Bool := decide (q.1.1 ≤ c1) && decide (c2 ≤ q.1.2) && pg_le p q.2
def md_off (q : md_T) (c1 c2 : Nat) (p : Nat × Nat × Nat) : Bool := decide (q.1.2 < c1) || decide (c2 < q.1.1) || pg_no q.2 p
/-- what the regions say of some places -/
def rg_find (rs : List rg_T) (c1 c2 : Nat) (p : Nat × Nat × Nat) : av_T := match rs.find? (fun q => rg_has q c1 c2 p) with
  | some q => q.2.2
  | none => av_top
theorem rg_find_in {rs : List rg_T} {c1 c2 : Nat} {p : Nat × Nat × Nat} {S : fw_S} (h : ∀ q ∈ rs, rg_in S q) {k j : Nat} (h1 : c1 ≤ k) (h2 : k ≤ c2) (h3 : pg_in p j) : av_in (rg_find rs c1 c2 p) (0, (S.1 k j).toInt) := by
  unfold rg_find
  split
  · rename_i q hq
    have g1 := List.mem_of_find?_eq_some hq
    have g2 := List.find?_some hq
    simp only [rg_has, Bool.and_eq_true, decide_eq_true_eq] at g2
    exact h q g1 k j (Nat.le_trans g2.1.1 h1) (Nat.le_trans h2 g2.1.2) (pg_le_in g2.2 h3)
  · exact av_top_in _
/-- where flags look: their footprints -/
def fl_off (ff : Nat → List md_T) (c1 c2 : Nat) (p : Nat × Nat × Nat) (g : Nat) : Bool := decide (g < 1000) && (ff g).all (fun q => md_off q c1 c2 p)
def hf_off (e : List en_E) (c1 c2 : Nat) (p : Nat × Nat × Nat) (q : Nat × Nat × Nat) : Bool := match e[q.1]?, e[q.2.1]? with
  | some a, some b => decide (a.1.2.2.1.toNat < c1) || decide (c2 < a.1.2.1.toNat) || (decide (0 ≤ b.1.2.1) && pg_no (pg_of b.1) p)
  | _, _ => false
/-- the flags stay where their footprints stay -/
def fl_ok (ff : Nat → List md_T) (fl : fl_T) : Prop := (∀ (g : Nat) (S S' : fw_S), g < 1000 → (∀ k j, md_at (ff g) k j → S'.1 k j = S.1 k j ∧ S'.2.1 k j = S.2.1 k j) → S'.2.2 = S.2.2 → fl g 0 0 0 S → fl g 0 0 0 S') ∧
  ∀ (c : Nat) (r x y : Int) (S S' : fw_S), c < 500 → fl c r x y S → fl c r x y S'
section HS
variable {ad sm : Nat → Nat} {fl : fl_T} {ff : Nat → List md_T} {α0 : List av_X} {S0 : fw_S} {mod : List md_T} {α : List av_X} {lv : List (Nat × Value)} {st : List Value} {S : fw_S}
variable {e : List en_E} {l : List (Nat × Nat)} {s : List Nat} {h : List (Nat × Nat × Nat)} {n : List (Nat × Int)} {c : List (Nat × Nat × Nat)} {r : List rg_T} {f : List Nat} {z : Option (List (Nat × Nat × Nat))}
theorem md_off_in {q : md_T} {c1 c2 k j : Nat} {p : Nat × Nat × Nat} (h : md_off q c1 c2 p = true) (h1 : c1 ≤ k) (h2 : k ≤ c2) (h3 : pg_in p j) (g1 : q.1.1 ≤ k) (g2 : k ≤ q.1.2) (g3 : pg_in q.2 j) : False := by
  simp only [md_off, Bool.or_eq_true, decide_eq_true_eq] at h
  rcases h with (h | h) | h
  · omega
  · omega
  · exact pg_no_in h g3 h3
theorem rg_off_in {q : rg_T} {c1 c2 k j : Nat} {p : Nat × Nat × Nat} (h : rg_off q c1 c2 p = true) (h1 : c1 ≤ k) (h2 : k ≤ c2) (h3 : pg_in p j) (g1 : q.1.1 ≤ k) (g2 : k ≤ q.1.2) (g3 : pg_in q.2.1 j) : False := by
  simp only [rg_off, Bool.or_eq_true, decide_eq_true_eq] at h
  rcases h with (h | h) | h
  · omega
  · omega
  · exact pg_no_in h g3 h3
/-- a state's facts under a change at places of c1 .. c2, p -/
def as_kill (ff : Nat → List md_T) (c1 c2 : Nat) (p : Nat × Nat × Nat) (a : Option av_T) (A : as_T) : as_T :=
  (A.1, A.2.1, A.2.2.1, A.2.2.2.1.filter (hf_off A.1 c1 c2 p), A.2.2.2.2.1, A.2.2.2.2.2.1,
   A.2.2.2.2.2.2.1.filter (fun q => rg_off q c1 c2 p || (match a with | some a => av_le a q.2.2 | none => false)), A.2.2.2.2.2.2.2.1.filter (fl_off ff c1 c2 p), none)
/-- S' is S but for places of c1 .. c2, p, where ints are in a -/
def ch_in (c1 c2 : Nat) (p : Nat × Nat × Nat) (a : Option av_T) (S S' : fw_S) : Prop :=
  (∀ k j, ¬ (c1 ≤ k ∧ k ≤ c2 ∧ pg_in p j) → S'.1 k j = S.1 k j ∧ S'.2.1 k j = S.2.1 k j) ∧ S'.2.2 = S.2.2 ∧ ∀ k j, S'.1 k j = S.1 k j ∨ ∀ b, a = some b → av_in b (0, (S'.1 k j).toInt)
theorem ct_X_same {S S' : fw_S} {k j : Nat} (h2 : S'.2.2 = S.2.2) (h : S'.1 k j = S.1 k j ∧ S'.2.1 k j = S.2.1 k j) : ct_X S' k j = ct_X S k j := by
  unfold ct_X
  rw [h.1, h.2, h2]
theorem as_kill_in {c1 c2 : Nat} {p : Nat × Nat × Nat} {a : Option av_T} {A : as_T} {S' : fw_S} (hfl : fl_ok ff fl) (H : as_in ad sm fl α0 S0 mod α A lv st S) (hc : ch_in c1 c2 p a S S')
    (hg : ∀ q ∈ wd_gt, rg_off q c1 c2 p = true ∨ ∃ b, a = some b ∧ av_le b q.2.2 = true) (hm : fr_in mod S0 S') : as_in ad sm fl α0 S0 mod α (as_kill ff c1 c2 p a A) lv st S' := by
  obtain ⟨h1, h2, h3, h4, h5, h6, h7, h8, h9, h10, h11⟩ := H
  have rg : ∀ q : rg_T, rg_in S q → (rg_off q c1 c2 p = true ∨ ∃ b, a = some b ∧ av_le b q.2.2 = true) → rg_in S' q := by
    intro q hq ho k j g1 g2 g3
    rcases ho with ho | ⟨b, hb1, hb2⟩
    · have : S'.1 k j = S.1 k j := (hc.1 k j (fun g => rg_off_in ho g.1 g.2.1 g.2.2 g1 g2 g3)).1
      rw [this]
      exact hq k j g1 g2 g3
    · rcases hc.2.2 k j with g | g
      · rw [g]
        exact hq k j g1 g2 g3
      · exact av_le_in hb2 (g b hb1)
  refine ⟨h1, h2, h3, h4, fun q hq => ?_, h6, h7, fun q hq => ?_, fun q hq => ?_, ⟨fun q hq => rg q (h10.1 q hq) (hg q hq), fun q hq j g1 g2 => by rw [hc.2.1]; exact h10.2 q hq j g1 g2⟩, hm, trivial⟩
  · obtain ⟨q1, q2⟩ := List.mem_filter.mp hq
    obtain ⟨k, j, x, g1, g2, g3, g4, g5, g6⟩ := h5 q q1
    refine ⟨k, j, x, g1, g2, g3, g4, g5, ?_⟩
    rw [← g6]
    refine ct_X_same hc.2.1 (hc.1 _ _ (fun g => ?_))
    obtain ⟨a1, b1, b2, -⟩ := en_some h2 g1
    obtain ⟨a2, b3, b4, -⟩ := en_some h2 g2
    unfold hf_off at q2
    rw [b1, b3] at q2
    simp only [Bool.or_eq_true, Bool.and_eq_true, decide_eq_true_eq] at q2
    have l1 := b2.2.2.1
    have l2 := b2.2.2.2.1
    dsimp only at l1 l2
    rcases q2 with (q2 | q2) | ⟨q2, q3⟩
    · omega
    · omega
    · exact pg_no_in q3 (pg_of_in b4 q2) g.2.2
  · obtain ⟨q1, q2⟩ := List.mem_filter.mp hq
    refine rg q (h8 q q1) ?_
    rw [Bool.or_eq_true] at q2
    rcases q2 with q2 | q2
    · exact Or.inl q2
    · cases a with
      | none => cases q2
      | some b => exact Or.inr ⟨b, rfl, q2⟩
  · obtain ⟨q1, q2⟩ := List.mem_filter.mp hq
    rw [fl_off, Bool.and_eq_true, decide_eq_true_eq] at q2
    refine hfl.1 q S S' q2.1 (fun k j hk => hc.1 k j (fun g => ?_)) hc.2.1 (h9 q q1)
    obtain ⟨d, d1, d2, d3, d4⟩ := hk
    exact md_off_in (List.all_eq_true.mp q2.2 d d1) g.1 g.2.1 g.2.2 d2 d3 d4
/-- may these places be written here -/
def md_ok (mod : List md_T) (c1 c2 : Nat) (p : Nat × Nat × Nat) : Bool := mod.any (fun q => md_has q c1 c2 p)
theorem md_ok_fr {mod : List md_T} {c1 c2 : Nat} {p : Nat × Nat × Nat} {a : Option av_T} {S0 S S' : fw_S} (h : md_ok mod c1 c2 p = true) (hf : fr_in mod S0 S) (hc : ch_in c1 c2 p a S S') : fr_in mod S0 S' := by
  refine ⟨fun k j hk => ?_, by rw [hc.2.1]; exact hf.2⟩
  obtain ⟨q, q1, q2⟩ := List.any_eq_true.mp h
  simp only [md_has, Bool.and_eq_true, decide_eq_true_eq] at q2
  obtain ⟨g1, g2⟩ := hc.1 k j (fun g => hk ⟨q, q1, Nat.le_trans q2.1.1 g.1, Nat.le_trans g.2.1 q2.1.2, pg_le_in q2.2 g.2.2⟩)
  obtain ⟨k1, k2⟩ := hf.1 k j hk
  exact ⟨g1.trans k1, g2.trans k2⟩
theorem ch_i {c1 c2 k j : Nat} {p : Nat × Nat × Nat} {a : av_T} {x : Int32} (h1 : c1 ≤ k) (h2 : k ≤ c2) (h3 : pg_in p j) (hx : av_in a (0, x.toInt)) : ch_in c1 c2 p (some a) S (fw_i S k j x) := by
  refine ⟨fun k' j' hn => ⟨?_, rfl⟩, rfl, fun k' j' => ?_⟩
  · show (if k' = k ∧ j' = j then x else S.1 k' j') = S.1 k' j'
    rw [if_neg (fun g => hn (by rw [g.1, g.2]; exact ⟨h1, h2, h3⟩))]
  · by_cases g : k' = k ∧ j' = j
    · refine Or.inr (fun b hb => ?_)
      cases hb
      show av_in a (0, (if k' = k ∧ j' = j then x else S.1 k' j').toInt)
      rw [if_pos g]
      exact hx
    · exact Or.inl (by show (if k' = k ∧ j' = j then x else S.1 k' j') = S.1 k' j'; rw [if_neg g])
theorem ch_l {c1 c2 k j : Nat} {p : Nat × Nat × Nat} {a : Option av_T} {x : Int64} (h1 : c1 ≤ k) (h2 : k ≤ c2) (h3 : pg_in p j) : ch_in c1 c2 p a S (fw_l S k j x) := by
  refine ⟨fun k' j' hn => ⟨rfl, ?_⟩, rfl, fun k' j' => Or.inl rfl⟩
  show (if k' = k ∧ j' = j then x else S.2.1 k' j') = S.2.1 k' j'
  rw [if_neg (fun g => hn (by rw [g.1, g.2]; exact ⟨h1, h2, h3⟩))]
/-- a sharper bound of a name -/
theorem as_set {A : as_T} {i : Nat} {q : en_E} {a : av_T} {x : av_X} (H : as_in ad sm fl α0 S0 mod α A lv st S) (hx : α[i]? = some x) (hq : A.1[i]? = some q) (ha : av_in a x) : as_in ad sm fl α0 S0 mod α (A.1.set i (a, q.2), A.2) lv st S := by
  obtain ⟨h1, h2, h3⟩ := H
  refine ⟨h1, ⟨by rw [h2.1]; simp, fun j w hj => ?_⟩, h3⟩
  dsimp only at hj
  rw [List.getElem?_set] at hj
  split at hj
  · rename_i g
    subst g
    split at hj
    · cases hj
      obtain ⟨x', g1, g2, g3⟩ := h2.2 i q hq
      cases g1.symm.trans hx
      exact ⟨_, hx, ha, g3⟩
    · cases hj
  · exact h2.2 j w hj
end HS
