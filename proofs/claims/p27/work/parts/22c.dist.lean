/-! ===== distances over ways that are open ===== -/
def hWg (f : Nat → Int32) (L : Nat → Prop) : Prop := ∀ x : Nat, x < 12 → (f x).toInt = 99 ∨ (f x).toInt = 0 ∨ (1 ≤ (f x).toInt ∧ ∃ t : Nat, t ≤ 16 ∧ L t ∧ ((lowI t = x ∧ (f (highI t).toNat).toInt + 1 ≤ (f x).toInt) ∨ (highI t = x ∧ (f (lowI t).toNat).toInt + 1 ≤ (f x).toInt)))
def hFg (f : Nat → Int32) (L : Nat → Prop) (n : Int) : Prop := ∀ t : Nat, (t : Int) < n → t ≤ 16 → L t → (f (lowI t).toNat).toInt ≤ (f (highI t).toNat).toInt + 1 ∧ (f (highI t).toNat).toInt ≤ (f (lowI t).toNat).toInt + 1
theorem lh_bd (t : Nat) (h : t ≤ 16) : 0 ≤ lowI t ∧ lowI t ≤ 10 ∧ 1 ≤ highI t ∧ highI t ≤ 11 ∧ lowI t < highI t := by
  have : (t : Int) / 3 ≤ 5 := by omega
  unfold highI lowI
  (repeat' split) <;> omega
def rw_u (f : Nat → Int32) (j : Nat) (v : Int) : Nat → Int32 := fun i => if i = j then Int32.ofInt v else f i
theorem rw_u_at {f : Nat → Int32} {j : Nat} {v : Int} (h : 0 ≤ v ∧ v ≤ 99) : (rw_u f j v j).toInt = v := by
  unfold rw_u
  rw [if_pos rfl]
  exact i32_of (by omega) (by omega)
theorem rw_u_ne {f : Nat → Int32} {i j : Nat} {v : Int} (h : i ≠ j) : rw_u f j v i = f i := by
  unfold rw_u
  rw [if_neg h]
theorem hW_st {f : Nat → Int32} {L : Nat → Prop} {j : Nat} {v : Int} (h : hWg f L) (hv0 : 0 ≤ v ∧ v ≤ 99) (hv : v ≤ (f j).toInt)
    (hw : v = (f j).toInt ∨ (1 ≤ v ∧ ∃ t : Nat, t ≤ 16 ∧ L t ∧ ((lowI t = j ∧ (f (highI t).toNat).toInt + 1 ≤ v) ∨ (highI t = j ∧ (f (lowI t).toNat).toInt + 1 ≤ v)))) : hWg (rw_u f j v) L := by
  have low : ∀ i, (rw_u f j v i).toInt ≤ (f i).toInt := fun i => by
    by_cases e : i = j
    · subst e; rw [rw_u_at hv0]; exact hv
    · rw [rw_u_ne e]; exact Int.le_refl _
  intro x hx
  by_cases e : x = j
  · subst e
    rw [rw_u_at hv0]
    rcases hw with g | ⟨g1, t, t1, t2, t3⟩
    · rcases h x hx with q | q | ⟨q1, t, t1, t2, t3⟩
      · exact Or.inl (g.trans q)
      · exact Or.inr (Or.inl (g.trans q))
      · refine Or.inr (Or.inr ⟨by omega, t, t1, t2, ?_⟩)
        have l1 := low (highI t).toNat
        have l2 := low (lowI t).toNat
        rcases t3 with ⟨a, b⟩ | ⟨a, b⟩
        · exact Or.inl ⟨a, by omega⟩
        · exact Or.inr ⟨a, by omega⟩
    · refine Or.inr (Or.inr ⟨g1, t, t1, t2, ?_⟩)
      have l1 := low (highI t).toNat
      have l2 := low (lowI t).toNat
      rcases t3 with ⟨a, b⟩ | ⟨a, b⟩
      · exact Or.inl ⟨a, by omega⟩
      · exact Or.inr ⟨a, by omega⟩
  · rw [rw_u_ne e]
    rcases h x hx with q | q | ⟨q1, t, t1, t2, t3⟩
    · exact Or.inl q
    · exact Or.inr (Or.inl q)
    · refine Or.inr (Or.inr ⟨q1, t, t1, t2, ?_⟩)
      have l1 := low (highI t).toNat
      have l2 := low (lowI t).toNat
      rcases t3 with ⟨a, b⟩ | ⟨a, b⟩
      · exact Or.inl ⟨a, by omega⟩
      · exact Or.inr ⟨a, by omega⟩
/-- both ends of a way made nearer -/
theorem h_upd {f : Nat → Int32} {L : Nat → Prop} {t : Nat} {a b va vb : Int} (h : hWg f L) (ht : t ≤ 16) (hL : L t) (ha : (f (lowI t).toNat).toInt = a) (hb : (f (highI t).toNat).toInt = b) (h0 : 0 ≤ a ∧ a ≤ 99 ∧ 0 ≤ b ∧ b ≤ 99)
    (h1 : va = a ∨ va = b + 1 ∧ b + 1 < a) (h2 : vb = b ∨ vb = a + 1 ∧ a + 1 < b) (h3 : va < a ∨ vb < b) :
    hWg (rw_u (rw_u f (lowI t).toNat va) (highI t).toNat vb) L ∧ sm_S (rw_u (rw_u f (lowI t).toNat va) (highI t).toNat vb) 12 < sm_S f 12 := by
  obtain ⟨b1, b2, b3, b4, b5⟩ := lh_bd t ht
  have hne : (highI t).toNat ≠ (lowI t).toNat := by omega
  have w1 : hWg (rw_u f (lowI t).toNat va) L := hW_st h (by omega) (by omega) (by
    rcases h1 with g | ⟨g, g'⟩
    · exact Or.inl (by omega)
    · exact Or.inr ⟨by omega, t, ht, hL, Or.inl ⟨by omega, by omega⟩⟩)
  have e1 : rw_u f (lowI t).toNat va (highI t).toNat = f (highI t).toNat := rw_u_ne hne
  have e2 : (rw_u f (lowI t).toNat va (lowI t).toNat).toInt = va := rw_u_at (by omega)
  refine ⟨hW_st w1 (by omega) (by rw [e1]; omega) ?_, ?_⟩
  · rw [e1]
    rcases h2 with g | ⟨g, g'⟩
    · exact Or.inl (by omega)
    · exact Or.inr ⟨by omega, t, ht, hL, Or.inr ⟨by omega, by rw [e2]; omega⟩⟩
  · have s1 : sm_S (rw_u f (lowI t).toNat va) 12 = sm_S f 12 - (f (lowI t).toNat).toInt + (Int32.ofInt va).toInt := sm_upd (fun i => rfl) (by omega)
    have s2 : sm_S (rw_u (rw_u f (lowI t).toNat va) (highI t).toNat vb) 12 = sm_S (rw_u f (lowI t).toNat va) 12 - (rw_u f (lowI t).toNat va (highI t).toNat).toInt + (Int32.ofInt vb).toInt := sm_upd (fun i => rfl) (by omega)
    rw [s2, s1, e1, i32_of (by omega) (by omega), i32_of (by omega) (by omega)]
    omega
/-- how many are at most so far -/
def cn_le (f : Nat → Int32) (k : Int) : Nat → Int
  | 0 => 0
  | n + 1 => cn_le f k n + (if (f n).toInt ≤ k then 1 else 0)
theorem cn_bd {f : Nat → Int32} {k : Int} : ∀ {n : Nat}, 0 ≤ cn_le f k n ∧ cn_le f k n ≤ n
  | 0 => by simp [cn_le]
  | n + 1 => by
    have := cn_bd (f := f) (k := k) (n := n)
    rw [cn_le]
    split <;> omega
theorem cn_mono {f : Nat → Int32} {k : Int} : ∀ {n : Nat}, cn_le f k n ≤ cn_le f (k + 1) n
  | 0 => Int.le_refl _
  | n + 1 => by
    have := cn_mono (f := f) (k := k) (n := n)
    rw [cn_le, cn_le]
    split <;> split <;> omega
theorem cn_up {f : Nat → Int32} {k : Int} {x : Nat} (hx : (f x).toInt = k + 1) : ∀ {n : Nat}, x < n → cn_le f k n + 1 ≤ cn_le f (k + 1) n
  | 0, h => by omega
  | n + 1, h => by
    rw [cn_le, cn_le]
    by_cases e : x = n
    · subst e
      have := cn_mono (f := f) (k := k) (n := x)
      rw [if_neg (by omega), if_pos (by omega)]
      omega
    · have := cn_up hx (n := n) (by omega)
      split <;> split <;> omega
/-- at the end every distance comes of a neighbour's, and none is far -/
theorem h_fin {f : Nat → Int32} {L : Nat → Prop} (h : hWg f L) (hF : hFg f L 17) (hb : ∀ j, j < 12 → 0 ≤ (f j).toInt ∧ (f j).toInt ≤ 99) :
    ∀ x : Nat, x < 12 → (f x).toInt = 99 ∨ (f x).toInt = 0 ∨ (1 ≤ (f x).toInt ∧ (f x).toInt ≤ 11 ∧ ∃ t : Nat, t ≤ 16 ∧ L t ∧ ((lowI t = x ∧ (f (highI t).toNat).toInt + 1 = (f x).toInt) ∨ (highI t = x ∧ (f (lowI t).toNat).toInt + 1 = (f x).toInt))) := by
  have pre : ∀ x : Nat, x < 12 → 1 ≤ (f x).toInt → (f x).toInt ≠ 99 → ∃ y : Nat, y < 12 ∧ (f y).toInt + 1 = (f x).toInt ∧ ∃ t : Nat, t ≤ 16 ∧ L t ∧ ((lowI t = x ∧ (f (highI t).toNat).toInt + 1 = (f x).toInt) ∨ (highI t = x ∧ (f (lowI t).toNat).toInt + 1 = (f x).toInt)) := by
    intro x hx h1 h2
    rcases h x hx with q | q | ⟨q1, t, t1, t2, t3⟩
    · exact absurd q h2
    · omega
    · obtain ⟨b1, b2, b3, b4, b5⟩ := lh_bd t t1
      obtain ⟨f1, f2⟩ := hF t (by omega) t1 t2
      rcases t3 with ⟨a, b⟩ | ⟨a, b⟩
      · have ex : (lowI t).toNat = x := by omega
        rw [ex] at f1 f2
        exact ⟨(highI t).toNat, by omega, by omega, t, t1, t2, Or.inl ⟨a, by omega⟩⟩
      · have ex : (highI t).toNat = x := by omega
        rw [ex] at f1 f2
        exact ⟨(lowI t).toNat, by omega, by omega, t, t1, t2, Or.inr ⟨a, by omega⟩⟩
  have lev : ∀ d : Nat, ∀ x : Nat, x < 12 → (f x).toInt = d → d ≤ 98 → (d : Int) + 1 ≤ cn_le f d 12 := by
    intro d
    induction d with
    | zero =>
      intro x hx hd _
      have := cn_up (f := f) (k := -1) (x := x) (by omega) (n := 12) hx
      have := cn_bd (f := f) (k := -1) (n := 12)
      have e : cn_le f (-1 + 1) 12 = cn_le f ((0 : Nat) : Int) 12 := rfl
      omega
    | succ d ih =>
      intro x hx hd hd2
      obtain ⟨y, y1, y2, -⟩ := pre x hx (by omega) (by omega)
      have h1 := ih y y1 (by omega) (by omega)
      have h2 := cn_up (f := f) (k := (d : Int)) (x := x) (by omega) (n := 12) hx
      have e : cn_le f ((d + 1 : Nat) : Int) 12 = cn_le f ((d : Int) + 1) 12 := by congr 1
      rw [e]
      omega
  intro x hx
  by_cases h99 : (f x).toInt = 99
  · exact Or.inl h99
  · by_cases h0 : (f x).toInt = 0
    · exact Or.inr (Or.inl h0)
    · have hr := hb x hx
      obtain ⟨y, y1, y2, y3⟩ := pre x hx (by omega) h99
      refine Or.inr (Or.inr ⟨by omega, ?_, y3⟩)
      have h1 := lev (f x).toInt.toNat x hx (by omega) (by omega)
      have h2 := cn_bd (f := f) (k := (((f x).toInt.toNat : Nat) : Int)) (n := 12)
      omega
