/-! ===== ABSTRACT STATES: (what each name may be, and by how much it is another one's more; locals; operands; places known; names that aren't a number; compared longs; regions; flags; exceptions made) ===== -/
/-- flags (by number, three numbers, contents); those below 500 don't look at the contents; as facts on numbers: fl c result x y -/
abbrev fl_T : Type := Nat → Int → Int → Int → fw_S → Prop
abbrev en_E : Type := av_T × Option (Nat × Int)
abbrev md_T : Type := (Nat × Nat) × (Nat × Nat × Nat)
abbrev as_T : Type := List en_E × List (Nat × Nat) × List Nat × List (Nat × Nat × Nat) × List (Nat × Int) × List (Nat × Nat × Nat) × List rg_T × List Nat × Option (List (Nat × Nat × Nat))
/-- the number that a place holds -/
def ct_X (S : fw_S) (k j : Nat) : Option av_X := match (wd_kd k).1 with
  | 0 => some (0, (S.1 k j).toInt)
  | 1 => some (1, (S.2.1 k j).toInt)
  | 2 => some (0, (S.1 k j).toInt)
  | 3 => (S.2.2 k j).map (fun t => (2, (t : Int)))
  | 4 => (S.2.2 k j).map (fun t => (2, (t : Int)))
  | 5 => (S.2.2 k j).map (fun t => (2, (t : Int)))
  | n + 6 => match fw_fk (fw_ty n j) with
    | 0 => some (0, (S.1 k j).toInt)
    | 1 => some (1, (S.2.1 k j).toInt)
    | _ => (S.2.2 k j).map (fun t => (2, (t : Int)))
def en_in (α : List av_X) (e : List en_E) : Prop := α.length = e.length ∧ ∀ (i : Nat) (q : en_E), e[i]? = some q → ∃ x, α[i]? = some x ∧ av_in q.1 x ∧ ∀ b o, q.2 = some (b, o) → x.1 = 0 ∧ ∃ y, α[b]? = some y ∧ y.1 = 0 ∧ x.2 = y.2 + o
def sk_in (ad sm : Nat → Nat) (α : List av_X) : List Nat → List Value → Prop
  | [], [] => True
  | i :: r, v :: w => (∃ x, α[i]? = some x ∧ v = av_V ad sm x) ∧ sk_in ad sm α r w
  | _, _ => False
def pg_in (q : Nat × Nat × Nat) (j : Nat) : Prop := q.1 ≤ j ∧ j ≤ q.2.1 ∧ q.2.2 ∣ (j - q.1)
def rg_in (S : fw_S) (q : rg_T) : Prop := ∀ k j, q.1.1 ≤ k → k ≤ q.1.2 → pg_in q.2.1 j → av_in q.2.2 (0, (S.1 k j).toInt)
def rf_in (S : fw_S) (q : Nat × Nat × Nat × Nat) : Prop := ∀ j, q.2.1 ≤ j → j ≤ q.2.2.1 → S.2.2 q.1 j = some (q.2.2.2 + (j - q.2.1))
def gi_in (S : fw_S) : Prop := (∀ q ∈ wd_gt, rg_in S q) ∧ ∀ q ∈ wd_rt, rf_in S q
def hf_in (α : List av_X) (S : fw_S) (q : Nat × Nat × Nat) : Prop := ∃ (k j : Int) (x : av_X), α[q.1]? = some (2, k) ∧ α[q.2.1]? = some (0, j) ∧ α[q.2.2]? = some x ∧ 0 ≤ k ∧ 0 ≤ j ∧ ct_X S k.toNat j.toNat = some x
def lc_in0 (α : List av_X) (q : Nat × Nat × Nat) : Prop := ∃ (z x y : Int), α[q.1]? = some (0, z) ∧ α[q.2.1]? = some (1, x) ∧ α[q.2.2]? = some (1, y) ∧ (z < 0 ↔ x < y) ∧ (0 < z ↔ y < x)
/-- what a table of the class holds -/
def tb_at (t : Nat) (i z : Int) : Prop := ∃ q, fw_sn[t]? = some q ∧ z = (Int32.ofInt (q.2.2.getD i.toNat 0)).toInt
/-- what a noted fact says of two numbers, or of a number made of them -/
def rel_in (fl : fl_T) (S0 : fw_S) (α : List av_X) (c n i j : Nat) : Prop := ∃ (x y : av_X), α[i]? = some x ∧ α[j]? = some y ∧ (match c with
  | 1 => x.2 < y.2
  | 2 => x.2 ≤ y.2
  | 3 => x.2 = y.2
  | 4 => x.2 ≠ y.2
  | 5 => α[n]? = some (0, x.2 + y.2)
  | 6 => α[n]? = some (0, x.2 - y.2)
  | 7 => α[n]? = some (0, x.2 * y.2)
  | 8 => ∃ z : av_X, α[n]? = some z ∧ ct_X S0 x.2.toNat y.2.toNat = some z
  | 9 => α[n]? = some (0, x.2 / y.2)
  | 9000 => ∃ z : Int, α[n]? = some (0, z) ∧ (z - (x.2 + y.2)) % 4294967296 = 0
  | 9001 => ∃ z : Int, α[n]? = some (0, z) ∧ (z - (x.2 - y.2)) % 4294967296 = 0
  | 9002 => α[n]? = some (0, x.2 % y.2)
  | c => ∃ z : Int, α[n]? = some (0, z) ∧ (if 9010 ≤ c then tb_at (c - 9010) x.2 z else fl c z x.2 y.2 S0))
def lc_in (fl : fl_T) (S0 : fw_S) (α : List av_X) (q : Nat × Nat × Nat) : Prop := if q.1 < 100000 then lc_in0 α q else rel_in fl S0 α (q.1 / 100000) (q.1 % 100000) q.2.1 q.2.2
/-- the writes since the start, the last one first -/
def wl_in (α : List av_X) (S0 : fw_S) : List (Nat × Nat × Nat) → fw_S → Prop
  | [], S => S = S0
  | q :: r, S => ∃ (S1 : fw_S) (k j v : Int), wl_in α S0 r S1 ∧ α[q.1]? = some (2, k) ∧ α[q.2.1]? = some (0, j) ∧ α[q.2.2]? = some (0, v) ∧ S = fw_i S1 k.toNat j.toNat (Int32.ofInt v)
def wz_in (α : List av_X) (S0 S : fw_S) : Option (List (Nat × Nat × Nat)) → Prop
  | none => True
  | some L => wl_in α S0 L S
def md_at (mod : List md_T) (k j : Nat) : Prop := ∃ q ∈ mod, q.1.1 ≤ k ∧ k ≤ q.1.2 ∧ pg_in q.2 j
/-- outside of some regions nothing has changed -/
def fr_in (mod : List md_T) (S0 S : fw_S) : Prop := (∀ k j, ¬ md_at mod k j → S.1 k j = S0.1 k j ∧ S.2.1 k j = S0.2.1 k j) ∧ S.2.2 = S0.2.2
/-- a name has the same number in the longer list -/
def al_le (α β : List av_X) : Prop := ∀ (i : Nat) (x : av_X), α[i]? = some x → β[i]? = some x
theorem al_le.refl {α : List av_X} : al_le α α := fun _ _ h => h
theorem al_le.trans {α β γ : List av_X} (h1 : al_le α β) (h2 : al_le β γ) : al_le α γ := fun i x h => h2 i x (h1 i x h)
theorem al_le_app {α β : List av_X} : al_le α (α ++ β) := fun i x h => by
  have hi : i < α.length := (List.getElem?_eq_some_iff.mp h).1
  rw [List.getElem?_append_left hi]
  exact h
theorem al_last {α : List av_X} {x : av_X} : (α ++ [x])[α.length]? = some x := by simp
def as_in (ad sm : Nat → Nat) (fl : fl_T) (α0 : List av_X) (S0 : fw_S) (mod : List md_T) (α : List av_X) (A : as_T) (lv : List (Nat × Value)) (st : List Value) (S : fw_S) : Prop :=
  al_le α0 α ∧ en_in α A.1 ∧ (∀ q ∈ A.2.1, ∃ x, α[q.2]? = some x ∧ (q.1, av_V ad sm x) ∈ lv) ∧ sk_in ad sm α A.2.2.1 st ∧ (∀ q ∈ A.2.2.2.1, hf_in α S q) ∧
  (∀ q ∈ A.2.2.2.2.1, ∃ x, α[q.1]? = some x ∧ x.2 ≠ q.2) ∧ (∀ q ∈ A.2.2.2.2.2.1, lc_in fl S0 α q) ∧ (∀ q ∈ A.2.2.2.2.2.2.1, rg_in S q) ∧ (∀ q ∈ A.2.2.2.2.2.2.2.1, fl q 0 0 0 S) ∧ gi_in S ∧ fr_in mod S0 S ∧ wz_in α S0 S A.2.2.2.2.2.2.2.2
section AS
variable {ad sm : Nat → Nat} {fl : fl_T} {α0 : List av_X} {S0 : fw_S} {mod : List md_T} {α : List av_X} {lv : List (Nat × Value)} {st : List Value} {S : fw_S}
variable {e : List en_E} {l : List (Nat × Nat)} {s : List Nat} {h : List (Nat × Nat × Nat)} {n : List (Nat × Int)} {c : List (Nat × Nat × Nat)} {r : List rg_T} {f : List Nat} {z : Option (List (Nat × Nat × Nat))}
theorem sk_mono {β : List av_X} (hle : al_le α β) : ∀ {s : List Nat} {st : List Value}, sk_in ad sm α s st → sk_in ad sm β s st
  | [], [], _ => trivial
  | _ :: _, _ :: _, h => ⟨by obtain ⟨x, h1, h2⟩ := h.1; exact ⟨x, hle _ _ h1, h2⟩, sk_mono hle h.2⟩
  | [], _ :: _, h => h.elim
  | _ :: _, [], h => h.elim
theorem hf_mono {β : List av_X} (hle : al_le α β) {q : Nat × Nat × Nat} (h : hf_in α S q) : hf_in β S q := by
  obtain ⟨k, j, x, h1, h2, h3, h4⟩ := h
  exact ⟨k, j, x, hle _ _ h1, hle _ _ h2, hle _ _ h3, h4⟩
theorem lc_mono {β : List av_X} (hle : al_le α β) {q : Nat × Nat × Nat} (h : lc_in fl S0 α q) : lc_in fl S0 β q := by
  unfold lc_in at h ⊢
  split
  · rename_i hq
    rw [if_pos hq] at h
    obtain ⟨z, x, y, h1, h2, h3, h4⟩ := h
    exact ⟨z, x, y, hle _ _ h1, hle _ _ h2, hle _ _ h3, h4⟩
  · rename_i hq
    rw [if_neg hq] at h
    obtain ⟨x, y, h1, h2, h3⟩ := h
    refine ⟨x, y, hle _ _ h1, hle _ _ h2, ?_⟩
    split at h3
    · exact h3
    · exact h3
    · exact h3
    · exact h3
    · exact hle _ _ h3
    · exact hle _ _ h3
    · exact hle _ _ h3
    · obtain ⟨z, z1, z2⟩ := h3
      exact ⟨z, hle _ _ z1, z2⟩
    · exact hle _ _ h3
    · obtain ⟨z, z1, z2⟩ := h3
      exact ⟨z, hle _ _ z1, z2⟩
    · obtain ⟨z, z1, z2⟩ := h3
      exact ⟨z, hle _ _ z1, z2⟩
    · exact hle _ _ h3
    · obtain ⟨z, z1, z2⟩ := h3
      exact ⟨z, hle _ _ z1, z2⟩
theorem wl_mono {β : List av_X} (hle : al_le α β) : ∀ {L : List (Nat × Nat × Nat)} {S : fw_S}, wl_in α S0 L S → wl_in β S0 L S
  | [], _, h => h
  | _ :: _, _, ⟨S1, k, j, v, h1, h2, h3, h4, h5⟩ => ⟨S1, k, j, v, wl_mono hle h1, hle _ _ h2, hle _ _ h3, hle _ _ h4, h5⟩
theorem wz_mono {β : List av_X} (hle : al_le α β) : ∀ {z : Option (List (Nat × Nat × Nat))}, wz_in α S0 S z → wz_in β S0 S z
  | none, _ => trivial
  | some _, h => wl_mono (β := β) hle h
theorem en_some {i : Nat} {x : av_X} (h : en_in α e) (hx : α[i]? = some x) : ∃ q, e[i]? = some q ∧ av_in q.1 x ∧ ∀ b o, q.2 = some (b, o) → x.1 = 0 ∧ ∃ y, α[b]? = some y ∧ y.1 = 0 ∧ x.2 = y.2 + o := by
  have hi : i < e.length := by rw [← h.1]; exact (List.getElem?_eq_some_iff.mp hx).1
  obtain ⟨x', h1, h2, h3⟩ := h.2 i e[i] (List.getElem?_eq_getElem hi)
  cases h1.symm.trans hx
  exact ⟨e[i], List.getElem?_eq_getElem hi, h2, h3⟩
theorem en_push {a : av_T} {d : Option (Nat × Int)} {x : av_X} (h : en_in α e) (hx : av_in a x) (hd : ∀ b o, d = some (b, o) → x.1 = 0 ∧ ∃ y, α[b]? = some y ∧ y.1 = 0 ∧ x.2 = y.2 + o) : en_in (α ++ [x]) (e ++ [(a, d)]) := by
  refine ⟨by simp [h.1], fun i q hi => ?_⟩
  by_cases hlt : i < e.length
  · rw [List.getElem?_append_left hlt] at hi
    obtain ⟨x', h1, h2, h3⟩ := h.2 i q hi
    refine ⟨x', al_le_app _ _ h1, h2, fun b o hb => ?_⟩
    obtain ⟨g1, y, g2, g3⟩ := h3 b o hb
    exact ⟨g1, y, al_le_app _ _ g2, g3⟩
  · have hi2 : i < e.length + 1 := by
      have := (List.getElem?_eq_some_iff.mp hi).1
      simpa using this
    have hie : i = e.length := by omega
    subst hie
    rw [List.getElem?_append_right (Nat.le_refl _), Nat.sub_self] at hi
    cases hi
    refine ⟨x, by rw [← h.1]; exact al_last, hx, fun b o hb => ?_⟩
    obtain ⟨g1, y, g2, g3⟩ := hd b o hb
    exact ⟨g1, y, al_le_app _ _ g2, g3⟩
theorem as_pop {i : Nat} (H : as_in ad sm fl α0 S0 mod α (e, l, i :: s, h, n, c, r, f, z) lv st S) : ∃ (x : av_X) (st' : List Value), st = av_V ad sm x :: st' ∧ α[i]? = some x ∧ as_in ad sm fl α0 S0 mod α (e, l, s, h, n, c, r, f, z) lv st' S := by
  obtain ⟨h1, h2, h3, h4, h5⟩ := H
  match st, h4 with
  | v :: w, h4 =>
    obtain ⟨⟨x, g1, g2⟩, g3⟩ := h4
    exact ⟨x, w, by rw [g2], g1, h1, h2, h3, g3, h5⟩
  | [], h4 => exact h4.elim
theorem as_pushv {i : Nat} {x : av_X} (H : as_in ad sm fl α0 S0 mod α (e, l, s, h, n, c, r, f, z) lv st S) (hx : α[i]? = some x) : as_in ad sm fl α0 S0 mod α (e, l, i :: s, h, n, c, r, f, z) lv (av_V ad sm x :: st) S := by
  obtain ⟨h1, h2, h3, h4, h5⟩ := H
  exact ⟨h1, h2, h3, ⟨⟨x, hx, rfl⟩, h4⟩, h5⟩
/-- a new name -/
theorem as_new {a : av_T} {d : Option (Nat × Int)} {x : av_X} (H : as_in ad sm fl α0 S0 mod α (e, l, s, h, n, c, r, f, z) lv st S) (hx : av_in a x) (hd : ∀ b o, d = some (b, o) → x.1 = 0 ∧ ∃ y, α[b]? = some y ∧ y.1 = 0 ∧ x.2 = y.2 + o) : as_in ad sm fl α0 S0 mod (α ++ [x]) (e ++ [(a, d)], l, s, h, n, c, r, f, z) lv st S := by
  obtain ⟨h1, h2, h3, h4, h5, h6, h7, h8, h9, h10, h11, h12⟩ := H
  refine ⟨h1.trans al_le_app, en_push h2 hx hd, fun q hq => ?_, sk_mono al_le_app h4, fun q hq => hf_mono al_le_app (h5 q hq), fun q hq => ?_, fun q hq => lc_mono al_le_app (h7 q hq), h8, h9, h10, h11, wz_mono al_le_app h12⟩
  · obtain ⟨y, g1, g2⟩ := h3 q hq
    exact ⟨y, al_le_app _ _ g1, g2⟩
  · obtain ⟨y, g1, g2⟩ := h6 q hq
    exact ⟨y, al_le_app _ _ g1, g2⟩
theorem as_push {a : av_T} {d : Option (Nat × Int)} {x : av_X} (H : as_in ad sm fl α0 S0 mod α (e, l, s, h, n, c, r, f, z) lv st S) (hx : av_in a x) (hd : ∀ b o, d = some (b, o) → x.1 = 0 ∧ ∃ y, α[b]? = some y ∧ y.1 = 0 ∧ x.2 = y.2 + o) :
    as_in ad sm fl α0 S0 mod (α ++ [x]) (e ++ [(a, d)], l, e.length :: s, h, n, c, r, f, z) lv (av_V ad sm x :: st) S := by
  have hlen : α.length = e.length := H.2.1.1
  exact as_pushv (as_new H hx hd) (by rw [← hlen]; exact al_last)
theorem as_no {x : av_X} : ∀ b o, (none : Option (Nat × Int)) = some (b, o) → x.1 = 0 ∧ ∃ y, α[b]? = some y ∧ y.1 = 0 ∧ x.2 = y.2 + o := fun _ _ q => by cases q
/-- an int on the stack -/
theorem as_popi {i : Nat} {q : en_E} (H : as_in ad sm fl α0 S0 mod α (e, l, i :: s, h, n, c, r, f, z) lv st S) (hq : e[i]? = some q) (hk : q.1.1 = 0) : ∃ (x : Int32) (st' : List Value), st = .int x :: st' ∧ α[i]? = some (0, x.toInt) ∧ av_in q.1 (0, x.toInt) ∧ as_in ad sm fl α0 S0 mod α (e, l, s, h, n, c, r, f, z) lv st' S := by
  obtain ⟨x, st', h1, h2, h3⟩ := as_pop H
  obtain ⟨q', g1, g2, -⟩ := en_some h3.2.1 h2
  cases g1.symm.trans hq
  have hi := av_int g2 hk
  obtain ⟨k, m⟩ := x
  have hk0 : k = 0 := g2.1.trans hk
  subst hk0
  dsimp only at hi
  refine ⟨Int32.ofInt m, st', h1, by rw [hi]; exact h2, by rw [hi]; exact g2, h3⟩
theorem as_popl {i : Nat} {q : en_E} (H : as_in ad sm fl α0 S0 mod α (e, l, i :: s, h, n, c, r, f, z) lv st S) (hq : e[i]? = some q) (hk : q.1.1 = 1) : ∃ (x : Int64) (st' : List Value), st = .long x :: st' ∧ α[i]? = some (1, x.toInt) ∧ av_in q.1 (1, x.toInt) ∧ as_in ad sm fl α0 S0 mod α (e, l, s, h, n, c, r, f, z) lv st' S := by
  obtain ⟨x, st', h1, h2, h3⟩ := as_pop H
  obtain ⟨q', g1, g2, -⟩ := en_some h3.2.1 h2
  cases g1.symm.trans hq
  have hi := av_long g2 hk
  obtain ⟨k, m⟩ := x
  have hk0 : k = 1 := g2.1.trans hk
  subst hk0
  dsimp only at hi
  refine ⟨Int64.ofInt m, st', h1, by rw [hi]; exact h2, by rw [hi]; exact g2, h3⟩
theorem as_popr {i : Nat} {q : en_E} (H : as_in ad sm fl α0 S0 mod α (e, l, i :: s, h, n, c, r, f, z) lv st S) (hq : e[i]? = some q) (hk : q.1.1 = 2) : ∃ (k : Nat) (st' : List Value), st = .ref (ad k) :: st' ∧ α[i]? = some (2, (k : Int)) ∧ av_in q.1 (2, (k : Int)) ∧ as_in ad sm fl α0 S0 mod α (e, l, s, h, n, c, r, f, z) lv st' S := by
  obtain ⟨x, st', h1, h2, h3⟩ := as_pop H
  obtain ⟨q', g1, g2, -⟩ := en_some h3.2.1 h2
  cases g1.symm.trans hq
  obtain ⟨k, m⟩ := x
  have hk0 : k = 2 := g2.1.trans hk
  subst hk0
  have hm : 0 ≤ m := g2.2.1
  have hi : ((m.toNat : Nat) : Int) = m := Int.toNat_of_nonneg hm
  exact ⟨m.toNat, st', h1, by rw [hi]; exact h2, by rw [hi]; exact g2, h3⟩
theorem as_pops {i : Nat} {q : en_E} (H : as_in ad sm fl α0 S0 mod α (e, l, i :: s, h, n, c, r, f, z) lv st S) (hq : e[i]? = some q) (hk : q.1.1 = 3) : ∃ (k : Nat) (st' : List Value), st = .ref (sm k) :: st' ∧ α[i]? = some (3, (k : Int)) ∧ av_in q.1 (3, (k : Int)) ∧ as_in ad sm fl α0 S0 mod α (e, l, s, h, n, c, r, f, z) lv st' S := by
  obtain ⟨x, st', h1, h2, h3⟩ := as_pop H
  obtain ⟨q', g1, g2, -⟩ := en_some h3.2.1 h2
  cases g1.symm.trans hq
  obtain ⟨k, m⟩ := x
  have hk0 : k = 3 := g2.1.trans hk
  subst hk0
  have hm : 0 ≤ m := g2.2.1
  have hi : ((m.toNat : Nat) : Int) = m := Int.toNat_of_nonneg hm
  exact ⟨m.toNat, st', h1, by rw [hi]; exact h2, by rw [hi]; exact g2, h3⟩
/-- an int made -/
theorem as_pushi {a : av_T} {d : Option (Nat × Int)} {x : Int32} (H : as_in ad sm fl α0 S0 mod α (e, l, s, h, n, c, r, f, z) lv st S) (hx : av_in a (0, x.toInt)) (hd : ∀ b o, d = some (b, o) → ∃ y : Int, α[b]? = some (0, y) ∧ x.toInt = y + o) :
    as_in ad sm fl α0 S0 mod (α ++ [(0, x.toInt)]) (e ++ [(a, d)], l, e.length :: s, h, n, c, r, f, z) lv (.int x :: st) S := by
  have h1 := as_push (d := d) H hx (fun b o hb => by obtain ⟨y, g1, g2⟩ := hd b o hb; exact ⟨rfl, (0, y), g1, rfl, g2⟩)
  have e1 : av_V ad sm (0, x.toInt) = .int x := by show Value.int (Int32.ofInt x.toInt) = .int x; rw [Int32.ofInt_toInt]
  rw [e1] at h1
  exact h1
theorem as_pushl {a : av_T} {x : Int64} (H : as_in ad sm fl α0 S0 mod α (e, l, s, h, n, c, r, f, z) lv st S) (hx : av_in a (1, x.toInt)) :
    as_in ad sm fl α0 S0 mod (α ++ [(1, x.toInt)]) (e ++ [(a, none)], l, e.length :: s, h, n, c, r, f, z) lv (.long x :: st) S := by
  have h1 := as_push (d := none) H hx (fun _ _ q => by cases q)
  have e1 : av_V ad sm (1, x.toInt) = .long x := by show Value.long (Int64.ofInt x.toInt) = .long x; rw [Int64.ofInt_toInt]
  rw [e1] at h1
  exact h1
theorem av_cat (x : av_X) : (x.1 = 1 ∧ (av_V ad sm x).category = 2) ∨ (x.1 ≠ 1 ∧ (av_V ad sm x).category = 1) := by
  obtain ⟨k, m⟩ := x
  match k with
  | 0 => exact Or.inr ⟨by simp, rfl⟩
  | 1 => exact Or.inl ⟨rfl, rfl⟩
  | 2 => exact Or.inr ⟨by simp, rfl⟩
  | 3 => exact Or.inr ⟨by simp, rfl⟩
  | n + 4 => exact Or.inr ⟨by show n + 4 ≠ 1; omega, rfl⟩
def en_kind (e : List en_E) (i : Nat) : Nat := match e[i]? with
  | some q => q.1.1
  | none => 99
theorem en_kind_eq {i : Nat} {x : av_X} (h : en_in α e) (hx : α[i]? = some x) : en_kind e i = x.1 := by
  obtain ⟨q, h1, h2, -⟩ := en_some h hx
  unfold en_kind
  rw [h1]
  exact h2.1.symm
/-- the locals behind a store -/
def as_st1 (e : List en_E) (l : List (Nat × Nat)) (i v : Nat) : List (Nat × Nat) := (i, v) :: l.filter (fun q => !(q.1 == i) && !(q.1 + 1 == i && en_kind e q.2 == 1))
def as_st2 (e : List en_E) (l : List (Nat × Nat)) (i v : Nat) : List (Nat × Nat) := (i, v) :: l.filter (fun q => !(q.1 == i) && !(q.1 == i + 1) && !(q.1 + 1 == i && en_kind e q.2 == 1))
theorem as_store1 {i v : Nat} {x : av_X} (H : as_in ad sm fl α0 S0 mod α (e, l, s, h, n, c, r, f, z) lv st S) (hx : α[v]? = some x) : as_in ad sm fl α0 S0 mod α (e, as_st1 e l i v, s, h, n, c, r, f, z) (fw_st1 lv i (av_V ad sm x)) st S := by
  obtain ⟨h1, h2, h3, h4⟩ := H
  refine ⟨h1, h2, fun q hq => ?_, h4⟩
  rcases List.mem_cons.mp hq with g | g
  · subst g
    exact ⟨x, hx, List.mem_cons_self⟩
  · obtain ⟨g1, g2⟩ := List.mem_filter.mp g
    obtain ⟨y, k1, k2⟩ := h3 q g1
    refine ⟨y, k1, List.mem_cons_of_mem _ (List.mem_filter.mpr ⟨k2, ?_⟩)⟩
    rw [en_kind_eq h2 k1] at g2
    rcases av_cat (ad := ad) (sm := sm) y with ⟨c1, c2⟩ | ⟨c1, c2⟩
    · rw [c1] at g2
      dsimp only
      rw [c2]
      exact g2
    · dsimp only
      rw [c2]
      simp only [Bool.and_eq_true] at g2 ⊢
      exact ⟨g2.1, by simp⟩
theorem as_store2 {i v : Nat} {x : av_X} (H : as_in ad sm fl α0 S0 mod α (e, l, s, h, n, c, r, f, z) lv st S) (hx : α[v]? = some x) : as_in ad sm fl α0 S0 mod α (e, as_st2 e l i v, s, h, n, c, r, f, z) (fw_st2 lv i (av_V ad sm x)) st S := by
  obtain ⟨h1, h2, h3, h4⟩ := H
  refine ⟨h1, h2, fun q hq => ?_, h4⟩
  rcases List.mem_cons.mp hq with g | g
  · subst g
    exact ⟨x, hx, List.mem_cons_self⟩
  · obtain ⟨g1, g2⟩ := List.mem_filter.mp g
    obtain ⟨y, k1, k2⟩ := h3 q g1
    refine ⟨y, k1, List.mem_cons_of_mem _ (List.mem_filter.mpr ⟨k2, ?_⟩)⟩
    rw [en_kind_eq h2 k1] at g2
    rcases av_cat (ad := ad) (sm := sm) y with ⟨c1, c2⟩ | ⟨c1, c2⟩
    · rw [c1] at g2
      dsimp only
      rw [c2]
      simp only [Bool.and_eq_true] at g2 ⊢
      exact ⟨g2.1.1, g2.1.2, g2.2⟩
    · dsimp only
      rw [c2]
      simp only [Bool.and_eq_true] at g2 ⊢
      exact ⟨g2.1.1, g2.1.2, by simp⟩
/-- a local read -/
def as_loc (l : List (Nat × Nat)) (i : Nat) : Option Nat := (l.find? (fun q => q.1 == i)).map (fun q => q.2)
theorem as_local {i v : Nat} (H : as_in ad sm fl α0 S0 mod α (e, l, s, h, n, c, r, f, z) lv st S) (hv : as_loc l i = some v) : ∃ x, α[v]? = some x ∧ (i, av_V ad sm x) ∈ lv := by
  unfold as_loc at hv
  cases hf : l.find? (fun q => q.1 == i) with
  | none => rw [hf] at hv; cases hv
  | some q =>
    rw [hf] at hv
    cases hv
    have h1 := List.mem_of_find?_eq_some hf
    have h2 : q.1 = i := by simpa using List.find?_some hf
    obtain ⟨x, g1, g2⟩ := H.2.2.1 q h1
    exact ⟨x, g1, by rw [← h2]; exact g2⟩
end AS
