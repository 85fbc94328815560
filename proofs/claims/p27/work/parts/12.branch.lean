/-! ===== STEPS: branches, with what they say of the numbers ===== -/
abbrev cn_T : Type := Jvm.ClassFile.Cond
def cn_rel (o : cn_T) (x y : Int) : Prop := match o with
  | .eq => x = y
  | .ne => x ≠ y
  | .lt => x < y
  | .ge => y ≤ x
  | .gt => y < x
  | .le => x ≤ y
def cn_neg (o : cn_T) : cn_T := match o with
  | .eq => .ne
  | .ne => .eq
  | .lt => .ge
  | .ge => .lt
  | .gt => .le
  | .le => .gt
theorem cn_rel_neg {o : cn_T} {x y : Int} (h : ¬ cn_rel o x y) : cn_rel (cn_neg o) x y := by
  cases o <;> simp only [cn_rel, cn_neg] at h ⊢ <;> omega
def rf_two (a b : Option av_T) : Option (av_T × av_T) := match a, b with
  | some x, some y => some (x, y)
  | _, _ => none
def rf_ne (a b : av_T) : Option av_T := if b.2.1 = b.2.2.1 then (if a.2.1 = b.2.1 then av_up a (a.2.1 + 1) else if a.2.2.1 = b.2.1 then av_dn a (a.2.2.1 - 1) else some a) else some a
def rf_c (o : cn_T) (a b : av_T) : Option (av_T × av_T) := match o with
  | .eq => rf_two (av_both a b) (av_both b a)
  | .ne => rf_two (rf_ne a b) (rf_ne b a)
  | .lt => rf_two (av_dn a (b.2.2.1 - 1)) (av_up b (a.2.1 + 1))
  | .ge => rf_two (av_up a b.2.1) (av_dn b a.2.2.1)
  | .gt => rf_two (av_up a (b.2.1 + 1)) (av_dn b (a.2.2.1 - 1))
  | .le => rf_two (av_dn a b.2.2.1) (av_up b a.2.1)
theorem rf_ne_in {a b : av_T} {k : Nat} {x y : Int} (ha : av_in a (k, x)) (hb : av_in b (k, y)) (h : x ≠ y) : ∃ a', rf_ne a b = some a' ∧ av_in a' (k, x) := by
  have h1 := ha.2.2.1
  have h2 := ha.2.2.2.1
  have h3 := hb.2.2.1
  have h4 := hb.2.2.2.1
  dsimp only at h1 h2 h3 h4
  unfold rf_ne
  split
  · split
    · exact av_up_in ha (by dsimp only; omega)
    · split
      · exact av_dn_in ha (by dsimp only; omega)
      · exact ⟨a, rfl, ha⟩
  · exact ⟨a, rfl, ha⟩
theorem rf_c_in {o : cn_T} {a b : av_T} {k : Nat} {x y : Int} (ha : av_in a (k, x)) (hb : av_in b (k, y)) (h : cn_rel o x y) : ∃ a' b', rf_c o a b = some (a', b') ∧ av_in a' (k, x) ∧ av_in b' (k, y) := by
  have h1 := ha.2.2.1
  have h2 := ha.2.2.2.1
  have h3 := hb.2.2.1
  have h4 := hb.2.2.2.1
  dsimp only at h1 h2 h3 h4
  have two : ∀ {u v : Option av_T}, (∃ a', u = some a' ∧ av_in a' (k, x)) → (∃ b', v = some b' ∧ av_in b' (k, y)) → ∃ a' b', rf_two u v = some (a', b') ∧ av_in a' (k, x) ∧ av_in b' (k, y) := by
    intro u v ⟨a', e1, g1⟩ ⟨b', e2, g2⟩
    subst e1
    subst e2
    exact ⟨a', b', rfl, g1, g2⟩
  cases o
  · have h : x = y := h
    subst h
    exact two (av_both_in ha hb) (av_both_in hb ha)
  · have h : x ≠ y := h
    exact two (rf_ne_in ha hb h) (rf_ne_in hb ha (fun q => h q.symm))
  · have h : x < y := h
    exact two (av_dn_in ha (by dsimp only; omega)) (av_up_in hb (by dsimp only; omega))
  · have h : y ≤ x := h
    exact two (av_up_in ha (by dsimp only; omega)) (av_dn_in hb (by dsimp only; omega))
  · have h : y < x := h
    exact two (av_up_in ha (by dsimp only; omega)) (av_dn_in hb (by dsimp only; omega))
  · have h : x ≤ y := h
    exact two (av_dn_in ha (by dsimp only; omega)) (av_up_in hb (by dsimp only; omega))
/-- numbers that a name isn't -/
def nf_1 (i : Nat) (a : Option av_T) (q : Nat × Int) : Option av_T := match a with
  | some a => if q.1 = i then (if q.2 = a.2.1 then av_up a (q.2 + 1) else if q.2 = a.2.2.1 then av_dn a (q.2 - 1) else some a) else some a
  | none => none
def nf_c (ns : List (Nat × Int)) (i : Nat) (a : av_T) : Option av_T := (ns ++ ns).foldl (nf_1 i) (some a)
theorem nf_c_in {α : List av_X} {ns : List (Nat × Int)} {i : Nat} {a : av_T} {x : av_X} (hn : ∀ q ∈ ns, ∃ x, α[q.1]? = some x ∧ x.2 ≠ q.2) (hx : α[i]? = some x) (ha : av_in a x) : ∃ a', nf_c ns i a = some a' ∧ av_in a' x := by
  have go : ∀ (l : List (Nat × Int)) (a : av_T), (∀ q ∈ l, ∃ x, α[q.1]? = some x ∧ x.2 ≠ q.2) → av_in a x → ∃ a', l.foldl (nf_1 i) (some a) = some a' ∧ av_in a' x := by
    intro l
    induction l with
    | nil => exact fun a _ h => ⟨a, rfl, h⟩
    | cons q r ih =>
      intro a hl h
      have step : ∃ a', nf_1 i (some a) q = some a' ∧ av_in a' x := by
        unfold nf_1
        dsimp only
        split
        · rename_i hi
          obtain ⟨x', g1, g2⟩ := hl q List.mem_cons_self
          rw [hi] at g1
          cases g1.symm.trans hx
          have h1 := h.2.2.1
          have h2 := h.2.2.2.1
          split
          · exact av_up_in h (by omega)
          · split
            · exact av_dn_in h (by omega)
            · exact ⟨a, rfl, h⟩
        · exact ⟨a, rfl, h⟩
      obtain ⟨a', e1, g1⟩ := step
      rw [List.foldl_cons, e1]
      exact ih a' (fun q hq => hl q (List.mem_cons_of_mem _ hq)) g1
  unfold nf_c
  exact go _ a (fun q hq => by rcases List.mem_append.mp hq with h | h <;> exact hn q h) ha
/-- the new 'isn't's of a branch -/
def nw_c (o : cn_T) (i : Nat) (b : av_T) (ns : List (Nat × Int)) : List (Nat × Int) := match o with
  | .ne => if b.2.1 = b.2.2.1 then (i, b.2.1) :: ns else ns
  | _ => ns
theorem nw_c_in {α : List av_X} {o : cn_T} {i k : Nat} {b : av_T} {ns : List (Nat × Int)} {x y : Int} (hn : ∀ q ∈ ns, ∃ x, α[q.1]? = some x ∧ x.2 ≠ q.2) (hx : α[i]? = some (k, x)) (hb : av_in b (k, y)) (h : cn_rel o x y) : ∀ q ∈ nw_c o i b ns, ∃ x, α[q.1]? = some x ∧ x.2 ≠ q.2 := by
  unfold nw_c
  split
  · split
    · rename_i e
      intro q hq
      rcases List.mem_cons.mp hq with g | g
      · subst g
        have h : x ≠ y := h
        have h3 := hb.2.2.1
        have h4 := hb.2.2.2.1
        dsimp only at h3 h4
        exact ⟨(k, x), hx, by dsimp only; omega⟩
      · exact hn q g
    · exact hn
  · exact hn
/-- a state in which one name stands so to another; none: it can't -/
def q_cond (o : cn_T) (A : as_T) (i j : Nat) (a b : en_E) : Option as_T := match rf_c o a.1 b.1 with
  | some w => match nf_c (nw_c o j a.1 (nw_c o i b.1 A.2.2.2.2.1)) i w.1, nf_c (nw_c o j a.1 (nw_c o i b.1 A.2.2.2.2.1)) j w.2 with
    | some a', some b' => some ((A.1.set i (a', a.2)).set j (b', if i = j then a.2 else b.2), A.2.1, A.2.2.1, A.2.2.2.1, nw_c o j a.1 (nw_c o i b.1 A.2.2.2.2.1), A.2.2.2.2.2)
    | _, _ => none
  | none => none
section BR
variable {p : Program} {l : Launch} {e0 : Env} {R : Room} {s0 : State} {m : MethodId} {args : Array Value} {below : List Frame} {meth : Method} {c0 : Code} {Q : State → Prop}
variable {D : va_G} {tc : Nat → ClassId} {ad : Nat → Nat} {kd : Nat → Nat × Nat} {N nL : Nat} {A0 : Nat → Prop} {own : String} {cc : ByteArray} {sm : Nat → Nat}
variable {fl : fl_T} {α0 : List av_X} {S0 : fw_S} {mod : List md_T} {α : List av_X} {A A' : as_T} {lv : List (Nat × Value)} {st : List Value} {S : fw_S} {pc n : Nat}
theorem as_ne {ns : List (Nat × Int)} (H : as_in ad sm fl α0 S0 mod α A lv st S) (hn : ∀ q ∈ ns, ∃ x, α[q.1]? = some x ∧ x.2 ≠ q.2) : as_in ad sm fl α0 S0 mod α (A.1, A.2.1, A.2.2.1, A.2.2.2.1, ns, A.2.2.2.2.2) lv st S := by
  obtain ⟨h1, h2, h3, h4, h5, h6, h7⟩ := H
  exact ⟨h1, h2, h3, h4, h5, hn, h7⟩
theorem q_cond_in {o : cn_T} {i j k : Nat} {a b : en_E} {x y : Int} (H : as_in ad sm fl α0 S0 mod α A lv st S) (hi : A.1[i]? = some a) (hj : A.1[j]? = some b) (gx : α[i]? = some (k, x)) (gy : α[j]? = some (k, y)) (ha : av_in a.1 (k, x)) (hb : av_in b.1 (k, y)) (h : cn_rel o x y) :
    ∃ A', q_cond o A i j a b = some A' ∧ as_in ad sm fl α0 S0 mod α A' lv st S := by
  obtain ⟨a1, b1, e1, g1, g2⟩ := rf_c_in ha hb h
  have n1 := nw_c_in (o := o) H.2.2.2.2.2.1 gx hb h
  have n2 : ∀ q ∈ nw_c o j a.1 (nw_c o i b.1 A.2.2.2.2.1), ∃ x, α[q.1]? = some x ∧ x.2 ≠ q.2 := by
    cases o with
    | ne => exact nw_c_in (o := .ne) n1 gy ha (fun q => h q.symm)
    | _ => exact n1
  obtain ⟨a2, e2, g3⟩ := nf_c_in n2 gx g1
  obtain ⟨b2, e3, g4⟩ := nf_c_in n2 gy g2
  unfold q_cond
  rw [e1]
  dsimp only
  rw [e2, e3]
  refine ⟨_, rfl, ?_⟩
  have s1 := as_set H gx hi g3
  have hj2 : (A.1.set i (a2, a.2))[j]? = some (if i = j then (a2, a.2) else b) := by
    rw [List.getElem?_set]
    split
    · rename_i g
      rw [if_pos (List.getElem?_eq_some_iff.mp hi).1]
    · exact hj
  have s2 := as_set s1 gy hj2 g4
  have s3 := as_ne s2 n2
  have e4 : (if i = j then (a2, a.2) else b).2 = if i = j then a.2 else b.2 := by split <;> rfl
  rw [e4] at s3
  exact s3
def cn_code (o : cn_T) : Nat := match o with
  | .eq => 3
  | .ne => 4
  | .lt => 1
  | .ge => 2
  | .gt => 1
  | .le => 2
def q_crel (o : cn_T) (A : Option as_T) (i j : Nat) : Option as_T := match A with
  | some B => some (match o with
    | .ge => q_rel B 2 0 j i
    | .gt => q_rel B 1 0 j i
    | o => q_rel B (cn_code o) 0 i j)
  | none => none
theorem q_crel_in {o : cn_T} {X : Option as_T} {B : as_T} {i j : Nat} {x y : Int} (hX : X = some B) (H : as_in ad sm fl α0 S0 mod α B lv st S) (gx : α[i]? = some (0, x)) (gy : α[j]? = some (0, y)) (h : cn_rel o x y) : ∃ A', q_crel o X i j = some A' ∧ as_in ad sm fl α0 S0 mod α A' lv st S := by
  subst hX
  unfold q_crel
  dsimp only
  refine ⟨_, rfl, ?_⟩
  cases o
  · exact q_rel_in (by decide) (by decide) H ⟨(0, x), (0, y), gx, gy, h⟩
  · exact q_rel_in (by decide) (by decide) H ⟨(0, x), (0, y), gx, gy, h⟩
  · exact q_rel_in (by decide) (by decide) H ⟨(0, x), (0, y), gx, gy, h⟩
  · exact q_rel_in (by decide) (by decide) H ⟨(0, y), (0, x), gy, gx, h⟩
  · exact q_rel_in (by decide) (by decide) H ⟨(0, y), (0, x), gy, gx, h⟩
  · exact q_rel_in (by decide) (by decide) H ⟨(0, x), (0, y), gx, gy, h⟩
/-- both sides of a branch: the places that come, with their states -/
def q_br (t f : Nat) (A1 A2 : Option as_T) : sp_L := (match A1 with | some A => [(t, A)] | none => []) ++ (match A2 with | some A => [(f, A)] | none => [])
/-- a bound handed on to the name that this one is so much more than -/
def q_dn (A : as_T) (i : Nat) : Option as_T := match A.1[i]? with
  | some (a, some (b, o)) => (match A.1[b]? with
    | some w => (match av_both w.1 (0, a.2.1 - o, a.2.2.1 - o, 1) with
      | some c => some (A.1.set b (c, w.2), A.2)
      | none => none)
    | none => some A)
  | _ => some A
theorem q_dn_in (i : Nat) (H : as_in ad sm fl α0 S0 mod α A lv st S) : ∃ A', q_dn A i = some A' ∧ as_in ad sm fl α0 S0 mod α A' lv st S := by
  unfold q_dn
  split
  · rename_i a b o hi
    split
    · rename_i w hw
      obtain ⟨x, x1, x2, x3⟩ := H.2.1.2 i _ hi
      obtain ⟨k0, y, y1, y2, y3⟩ := x3 b o rfl
      obtain ⟨w', w1, w2, -⟩ := en_some H.2.1 y1
      cases w1.symm.trans hw
      have l1 := x2.2.2.1
      have l2 := x2.2.2.2.1
      dsimp only at l1 l2
      have hb : av_in ((0, a.2.1 - o, a.2.2.1 - o, 1) : av_T) y := ⟨y2, w2.2.1, by dsimp only; omega, by dsimp only; omega, av_one _⟩
      obtain ⟨c, c1, c2⟩ := av_both_in w2 hb
      rw [c1]
      exact ⟨_, rfl, as_set H y1 hw c2⟩
    · exact ⟨A, rfl, H⟩
  · exact ⟨A, rfl, H⟩
def q_dn2 (A : Option as_T) (i j : Nat) : Option as_T := match A with
  | some B => (match q_dn B i with
    | some B' => q_dn B' j
    | none => none)
  | none => none
theorem q_dn2_in {X : Option as_T} {B : as_T} (i j : Nat) (hX : X = some B) (H : as_in ad sm fl α0 S0 mod α B lv st S) : ∃ A', q_dn2 X i j = some A' ∧ as_in ad sm fl α0 S0 mod α A' lv st S := by
  subst hX
  obtain ⟨C, c1, c2⟩ := q_dn_in i H
  obtain ⟨E, e1, e2⟩ := q_dn_in j c2
  refine ⟨E, ?_, e2⟩
  show (match q_dn B i with | some B' => q_dn B' j | none => none) = some E
  rw [c1]
  exact e1
def q_icmp (o : cn_T) (A : as_T) (t f : Nat) : Option sp_L := match A.2.2.1 with
  | j :: i :: s => match A.1[i]?, A.1[j]? with
    | some a, some b => if a.1.1 = 0 ∧ b.1.1 = 0 then some (q_br t f (q_crel o (q_dn2 (q_cond o (q_stk A s) i j a b) i j) i j) (q_crel (cn_neg o) (q_dn2 (q_cond (cn_neg o) (q_stk A s) i j a b) i j) i j)) else none
    | _, _ => none
  | _ => none
theorem q_br1 {t f : Nat} {A1 A2 : Option as_T} {B : as_T} (h : A1 = some B) : (t, B) ∈ q_br t f A1 A2 := by
  subst h
  exact List.mem_append_left _ List.mem_cons_self
theorem q_br2 {t f : Nat} {A1 A2 : Option as_T} {B : as_T} (h : A2 = some B) : (f, B) ∈ q_br t f A1 A2 := by
  subst h
  exact List.mem_append_right _ List.mem_cons_self
/-- a branch on two ints, whatever its row -/
theorem sp_icmp {o : cn_T} {t : Nat} {L : sp_L} (h : q_icmp o A t (pc + 3) = some L) (H : as_in ad sm fl α0 S0 mod α A lv st S)
    (row : ∀ (x y : Int32) (rest : List Value), (cn_rel o x.toInt y.toInt → fw_W p l e0 R s0 m args below meth c0 Q D tc ad kd N nL A0 t lv rest S n) → (¬ cn_rel o x.toInt y.toInt → fw_W p l e0 R s0 m args below meth c0 Q D tc ad kd N nL A0 (pc + 3) lv rest S n) → fw_W p l e0 R s0 m args below meth c0 Q D tc ad kd N nL A0 pc lv (.int y :: .int x :: rest) S n)
    (k : ∀ q ∈ L, sp_K p l e0 R s0 m args below meth c0 Q D tc ad kd N nL A0 sm fl α0 S0 mod α n q.1 q.2) : fw_W p l e0 R s0 m args below meth c0 Q D tc ad kd N nL A0 pc lv st S n := by
  unfold q_icmp at h
  split at h
  · rename_i j i s hs
    split at h
    · rename_i a b ha hb
      split at h
      · rename_i hk
        cases h
        obtain ⟨y, st1, g1, g2, g3, g4⟩ := as_popi (as_q H hs) hb hk.2
        obtain ⟨x, st2, k1, k2, k3, k4⟩ := as_popi g4 ha hk.1
        subst k1
        subst g1
        have k4 : as_in ad sm fl α0 S0 mod α (q_stk A s) lv st2 S := k4
        refine row x y st2 (fun hc => ?_) (fun hc => ?_)
        · obtain ⟨A9, e9, q9⟩ := q_cond_in k4 ha hb k2 g2 k3 g3 hc
          obtain ⟨A8, e8, q8⟩ := q_dn2_in i j e9 q9
          obtain ⟨A1, e1, q1⟩ := q_crel_in e8 q8 k2 g2 hc
          exact k _ (q_br1 e1) _ _ _ _ al_le.refl q1
        · obtain ⟨A9, e9, q9⟩ := q_cond_in k4 ha hb k2 g2 k3 g3 (cn_rel_neg hc)
          obtain ⟨A8, e8, q8⟩ := q_dn2_in i j e9 q9
          obtain ⟨A1, e1, q1⟩ := q_crel_in e8 q8 k2 g2 (cn_rel_neg hc)
          exact k _ (q_br2 e1) _ _ _ _ al_le.refl q1
      · cases h
    · cases h
  · cases h
/-- a number against 0, and the longs that it compares -/
def q_lcond (o : cn_T) (A : as_T) (i : Nat) : Option as_T := match A.2.2.2.2.2.1.find? (fun q => q.1 == i && decide (q.1 < 100000)) with
  | some q => match A.1[q.2.1]?, A.1[q.2.2]? with
    | some a, some b => q_cond o A q.2.1 q.2.2 a b
    | _, _ => some A
  | none => some A
theorem q_lcond_in {o : cn_T} {i : Nat} {z : Int} (H : as_in ad sm fl α0 S0 mod α A lv st S) (gz : α[i]? = some (0, z)) (h : cn_rel o z 0) : ∃ A', q_lcond o A i = some A' ∧ as_in ad sm fl α0 S0 mod α A' lv st S := by
  unfold q_lcond
  split
  · rename_i q hq
    have h1 := List.mem_of_find?_eq_some hq
    have h2 : q.1 = i ∧ q.1 < 100000 := by simpa using List.find?_some hq
    have h3 := H.2.2.2.2.2.2.1 q h1
    unfold lc_in at h3
    rw [if_pos h2.2] at h3
    replace h2 := h2.1
    obtain ⟨z', x, y, g1, g2, g3, g4, g5⟩ := h3
    rw [h2] at g1
    cases g1.symm.trans gz
    obtain ⟨a, a1, a2, -⟩ := en_some H.2.1 g2
    obtain ⟨b, b1, b2, -⟩ := en_some H.2.1 g3
    rw [a1, b1]
    refine q_cond_in H a1 b1 g2 g3 a2 b2 ?_
    cases o <;> simp only [cn_rel] at h ⊢ <;> omega
  · exact ⟨A, rfl, H⟩
def q_zero : en_E := ((0, 0, 0, 0), none)
/-- one name against 0 -/
def q_cond0 (o : cn_T) (A : as_T) (i : Nat) (a : en_E) : Option as_T := match rf_c o a.1 (0, 0, 0, 0) with
  | some w => match nf_c (nw_c o i (0, 0, 0, 0) A.2.2.2.2.1) i w.1 with
    | some a' => q_lcond o (A.1.set i (a', a.2), A.2.1, A.2.2.1, A.2.2.2.1, nw_c o i (0, 0, 0, 0) A.2.2.2.2.1, A.2.2.2.2.2) i
    | none => none
  | none => none
theorem q_cond0_in {o : cn_T} {i : Nat} {a : en_E} {x : Int} (H : as_in ad sm fl α0 S0 mod α A lv st S) (hi : A.1[i]? = some a) (gx : α[i]? = some (0, x)) (ha : av_in a.1 (0, x)) (h : cn_rel o x 0) : ∃ A', q_cond0 o A i a = some A' ∧ as_in ad sm fl α0 S0 mod α A' lv st S := by
  have hz : av_in ((0, 0, 0, 0) : av_T) (0, 0) := ⟨rfl, ⟨by decide, by decide⟩, Int.le_refl _, Int.le_refl _, Int.dvd_refl _⟩
  obtain ⟨a1, b1, e1, g1, -⟩ := rf_c_in ha hz h
  have n1 := nw_c_in (o := o) H.2.2.2.2.2.1 gx hz h
  obtain ⟨a2, e2, g3⟩ := nf_c_in n1 gx g1
  unfold q_cond0
  rw [e1]
  dsimp only
  rw [e2]
  exact q_lcond_in (as_ne (as_set H gx hi g3) n1) gx h
def q_if (o : cn_T) (A : as_T) (t f : Nat) : Option sp_L := match A.2.2.1 with
  | i :: s => match A.1[i]? with
    | some a => if a.1.1 = 0 then some (q_br t f (q_dn2 (q_cond0 o (q_stk A s) i a) i i) (q_dn2 (q_cond0 (cn_neg o) (q_stk A s) i a) i i)) else none
    | _ => none
  | _ => none
theorem sp_if {o : cn_T} {t : Nat} {L : sp_L} (h : q_if o A t (pc + 3) = some L) (H : as_in ad sm fl α0 S0 mod α A lv st S)
    (row : ∀ (x : Int32) (rest : List Value), (cn_rel o x.toInt 0 → fw_W p l e0 R s0 m args below meth c0 Q D tc ad kd N nL A0 t lv rest S n) → (¬ cn_rel o x.toInt 0 → fw_W p l e0 R s0 m args below meth c0 Q D tc ad kd N nL A0 (pc + 3) lv rest S n) → fw_W p l e0 R s0 m args below meth c0 Q D tc ad kd N nL A0 pc lv (.int x :: rest) S n)
    (k : ∀ q ∈ L, sp_K p l e0 R s0 m args below meth c0 Q D tc ad kd N nL A0 sm fl α0 S0 mod α n q.1 q.2) : fw_W p l e0 R s0 m args below meth c0 Q D tc ad kd N nL A0 pc lv st S n := by
  unfold q_if at h
  split at h
  · rename_i i s hs
    split at h
    · rename_i a ha
      split at h
      · rename_i hk
        cases h
        obtain ⟨x, st2, k1, k2, k3, k4⟩ := as_popi (as_q H hs) ha hk
        subst k1
        have k4 : as_in ad sm fl α0 S0 mod α (q_stk A s) lv st2 S := k4
        refine row x st2 (fun hc => ?_) (fun hc => ?_)
        · obtain ⟨A9, e9, q9⟩ := q_cond0_in k4 ha k2 k3 hc
          obtain ⟨A1, e1, q1⟩ := q_dn2_in i i e9 q9
          exact k _ (q_br1 e1) _ _ _ _ al_le.refl q1
        · obtain ⟨A9, e9, q9⟩ := q_cond0_in k4 ha k2 k3 (cn_rel_neg hc)
          obtain ⟨A1, e1, q1⟩ := q_dn2_in i i e9 q9
          exact k _ (q_br2 e1) _ _ _ _ al_le.refl q1
      · cases h
    · cases h
  · cases h
theorem i32_eq {x y : Int32} : x = y ↔ x.toInt = y.toInt := Int32.toInt_inj.symm
theorem i32_0 : (0 : Int32).toInt = 0 := rfl
theorem sp_icmp_eq (C0 : fw_C p s0 m args meth c0 D tc A0 own cc nL) {off : Int} {t : Nat} {L : sp_L} (hdg : decode cc pc = .ok (.if_icmp .eq off, 3)) (ht : (pc : Int) + off = (t : Int)) (h : q_icmp .eq A t (pc + 3) = some L) (H : as_in ad sm fl α0 S0 mod α A lv st S) (k : ∀ q ∈ L, sp_K p l e0 R s0 m args below meth c0 Q D tc ad kd N nL A0 sm fl α0 S0 mod α n q.1 q.2) : fw_W p l e0 R s0 m args below meth c0 Q D tc ad kd N nL A0 pc lv st S n :=
  sp_icmp h H (fun x y rest kt kf => fw_icmp_eq C0 ht hdg (fun q => kt (i32_eq.mp q)) (fun q => kf (fun g => q (i32_eq.mpr g)))) k
theorem sp_if_eq (C0 : fw_C p s0 m args meth c0 D tc A0 own cc nL) {off : Int} {t : Nat} {L : sp_L} (hdg : decode cc pc = .ok (.ifCond .eq off, 3)) (ht : (pc : Int) + off = (t : Int)) (h : q_if .eq A t (pc + 3) = some L) (H : as_in ad sm fl α0 S0 mod α A lv st S) (k : ∀ q ∈ L, sp_K p l e0 R s0 m args below meth c0 Q D tc ad kd N nL A0 sm fl α0 S0 mod α n q.1 q.2) : fw_W p l e0 R s0 m args below meth c0 Q D tc ad kd N nL A0 pc lv st S n :=
  sp_if h H (fun x rest kt kf => fw_if_eq C0 ht hdg (fun q => kt (i32_eq.mp q)) (fun q => kf (fun g => q (i32_eq.mpr g)))) k
theorem sp_icmp_ne (C0 : fw_C p s0 m args meth c0 D tc A0 own cc nL) {off : Int} {t : Nat} {L : sp_L} (hdg : decode cc pc = .ok (.if_icmp .ne off, 3)) (ht : (pc : Int) + off = (t : Int)) (h : q_icmp .ne A t (pc + 3) = some L) (H : as_in ad sm fl α0 S0 mod α A lv st S) (k : ∀ q ∈ L, sp_K p l e0 R s0 m args below meth c0 Q D tc ad kd N nL A0 sm fl α0 S0 mod α n q.1 q.2) : fw_W p l e0 R s0 m args below meth c0 Q D tc ad kd N nL A0 pc lv st S n :=
  sp_icmp h H (fun x y rest kt kf => fw_icmp_ne C0 ht hdg (fun q => kt (fun g => q (i32_eq.mpr g))) (fun q => kf (fun g => g (i32_eq.mp q)))) k
theorem sp_if_ne (C0 : fw_C p s0 m args meth c0 D tc A0 own cc nL) {off : Int} {t : Nat} {L : sp_L} (hdg : decode cc pc = .ok (.ifCond .ne off, 3)) (ht : (pc : Int) + off = (t : Int)) (h : q_if .ne A t (pc + 3) = some L) (H : as_in ad sm fl α0 S0 mod α A lv st S) (k : ∀ q ∈ L, sp_K p l e0 R s0 m args below meth c0 Q D tc ad kd N nL A0 sm fl α0 S0 mod α n q.1 q.2) : fw_W p l e0 R s0 m args below meth c0 Q D tc ad kd N nL A0 pc lv st S n :=
  sp_if h H (fun x rest kt kf => fw_if_ne C0 ht hdg (fun q => kt (fun g => q (i32_eq.mpr g))) (fun q => kf (fun g => g (i32_eq.mp q)))) k
theorem sp_icmp_lt (C0 : fw_C p s0 m args meth c0 D tc A0 own cc nL) {off : Int} {t : Nat} {L : sp_L} (hdg : decode cc pc = .ok (.if_icmp .lt off, 3)) (ht : (pc : Int) + off = (t : Int)) (h : q_icmp .lt A t (pc + 3) = some L) (H : as_in ad sm fl α0 S0 mod α A lv st S) (k : ∀ q ∈ L, sp_K p l e0 R s0 m args below meth c0 Q D tc ad kd N nL A0 sm fl α0 S0 mod α n q.1 q.2) : fw_W p l e0 R s0 m args below meth c0 Q D tc ad kd N nL A0 pc lv st S n :=
  sp_icmp h H (fun x y rest kt kf => fw_icmp_lt C0 ht hdg (fun q => kt (Int32.lt_iff_toInt_lt.mp q)) (fun q => kf (fun g => q (Int32.lt_iff_toInt_lt.mpr g)))) k
theorem sp_if_lt (C0 : fw_C p s0 m args meth c0 D tc A0 own cc nL) {off : Int} {t : Nat} {L : sp_L} (hdg : decode cc pc = .ok (.ifCond .lt off, 3)) (ht : (pc : Int) + off = (t : Int)) (h : q_if .lt A t (pc + 3) = some L) (H : as_in ad sm fl α0 S0 mod α A lv st S) (k : ∀ q ∈ L, sp_K p l e0 R s0 m args below meth c0 Q D tc ad kd N nL A0 sm fl α0 S0 mod α n q.1 q.2) : fw_W p l e0 R s0 m args below meth c0 Q D tc ad kd N nL A0 pc lv st S n :=
  sp_if h H (fun x rest kt kf => fw_if_lt C0 ht hdg (fun q => kt (Int32.lt_iff_toInt_lt.mp q)) (fun q => kf (fun g => q (Int32.lt_iff_toInt_lt.mpr g)))) k
theorem sp_icmp_ge (C0 : fw_C p s0 m args meth c0 D tc A0 own cc nL) {off : Int} {t : Nat} {L : sp_L} (hdg : decode cc pc = .ok (.if_icmp .ge off, 3)) (ht : (pc : Int) + off = (t : Int)) (h : q_icmp .ge A t (pc + 3) = some L) (H : as_in ad sm fl α0 S0 mod α A lv st S) (k : ∀ q ∈ L, sp_K p l e0 R s0 m args below meth c0 Q D tc ad kd N nL A0 sm fl α0 S0 mod α n q.1 q.2) : fw_W p l e0 R s0 m args below meth c0 Q D tc ad kd N nL A0 pc lv st S n :=
  sp_icmp h H (fun x y rest kt kf => fw_icmp_ge C0 ht hdg (fun q => kt (Int32.le_iff_toInt_le.mp q)) (fun q => kf (fun g => q (Int32.le_iff_toInt_le.mpr g)))) k
theorem sp_if_ge (C0 : fw_C p s0 m args meth c0 D tc A0 own cc nL) {off : Int} {t : Nat} {L : sp_L} (hdg : decode cc pc = .ok (.ifCond .ge off, 3)) (ht : (pc : Int) + off = (t : Int)) (h : q_if .ge A t (pc + 3) = some L) (H : as_in ad sm fl α0 S0 mod α A lv st S) (k : ∀ q ∈ L, sp_K p l e0 R s0 m args below meth c0 Q D tc ad kd N nL A0 sm fl α0 S0 mod α n q.1 q.2) : fw_W p l e0 R s0 m args below meth c0 Q D tc ad kd N nL A0 pc lv st S n :=
  sp_if h H (fun x rest kt kf => fw_if_ge C0 ht hdg (fun q => kt (Int32.le_iff_toInt_le.mp q)) (fun q => kf (fun g => q (Int32.le_iff_toInt_le.mpr g)))) k
theorem sp_icmp_gt (C0 : fw_C p s0 m args meth c0 D tc A0 own cc nL) {off : Int} {t : Nat} {L : sp_L} (hdg : decode cc pc = .ok (.if_icmp .gt off, 3)) (ht : (pc : Int) + off = (t : Int)) (h : q_icmp .gt A t (pc + 3) = some L) (H : as_in ad sm fl α0 S0 mod α A lv st S) (k : ∀ q ∈ L, sp_K p l e0 R s0 m args below meth c0 Q D tc ad kd N nL A0 sm fl α0 S0 mod α n q.1 q.2) : fw_W p l e0 R s0 m args below meth c0 Q D tc ad kd N nL A0 pc lv st S n :=
  sp_icmp h H (fun x y rest kt kf => fw_icmp_gt C0 ht hdg (fun q => kt (Int32.lt_iff_toInt_lt.mp q)) (fun q => kf (fun g => q (Int32.lt_iff_toInt_lt.mpr g)))) k
theorem sp_if_gt (C0 : fw_C p s0 m args meth c0 D tc A0 own cc nL) {off : Int} {t : Nat} {L : sp_L} (hdg : decode cc pc = .ok (.ifCond .gt off, 3)) (ht : (pc : Int) + off = (t : Int)) (h : q_if .gt A t (pc + 3) = some L) (H : as_in ad sm fl α0 S0 mod α A lv st S) (k : ∀ q ∈ L, sp_K p l e0 R s0 m args below meth c0 Q D tc ad kd N nL A0 sm fl α0 S0 mod α n q.1 q.2) : fw_W p l e0 R s0 m args below meth c0 Q D tc ad kd N nL A0 pc lv st S n :=
  sp_if h H (fun x rest kt kf => fw_if_gt C0 ht hdg (fun q => kt (Int32.lt_iff_toInt_lt.mp q)) (fun q => kf (fun g => q (Int32.lt_iff_toInt_lt.mpr g)))) k
theorem sp_icmp_le (C0 : fw_C p s0 m args meth c0 D tc A0 own cc nL) {off : Int} {t : Nat} {L : sp_L} (hdg : decode cc pc = .ok (.if_icmp .le off, 3)) (ht : (pc : Int) + off = (t : Int)) (h : q_icmp .le A t (pc + 3) = some L) (H : as_in ad sm fl α0 S0 mod α A lv st S) (k : ∀ q ∈ L, sp_K p l e0 R s0 m args below meth c0 Q D tc ad kd N nL A0 sm fl α0 S0 mod α n q.1 q.2) : fw_W p l e0 R s0 m args below meth c0 Q D tc ad kd N nL A0 pc lv st S n :=
  sp_icmp h H (fun x y rest kt kf => fw_icmp_le C0 ht hdg (fun q => kt (Int32.le_iff_toInt_le.mp q)) (fun q => kf (fun g => q (Int32.le_iff_toInt_le.mpr g)))) k
theorem sp_if_le (C0 : fw_C p s0 m args meth c0 D tc A0 own cc nL) {off : Int} {t : Nat} {L : sp_L} (hdg : decode cc pc = .ok (.ifCond .le off, 3)) (ht : (pc : Int) + off = (t : Int)) (h : q_if .le A t (pc + 3) = some L) (H : as_in ad sm fl α0 S0 mod α A lv st S) (k : ∀ q ∈ L, sp_K p l e0 R s0 m args below meth c0 Q D tc ad kd N nL A0 sm fl α0 S0 mod α n q.1 q.2) : fw_W p l e0 R s0 m args below meth c0 Q D tc ad kd N nL A0 pc lv st S n :=
  sp_if h H (fun x rest kt kf => fw_if_le C0 ht hdg (fun q => kt (Int32.le_iff_toInt_le.mp q)) (fun q => kf (fun g => q (Int32.le_iff_toInt_le.mpr g)))) k
/-- two longs compared -/
def q_lcmp (A : as_T) : Option as_T := match A.2.2.1 with
  | j :: i :: s => match q_av A i 1, q_av A j 1 with
    | some _, some _ => if A.1.length < 100000 then some (A.1 ++ [((0, -1, 1, 1), none)], A.2.1, A.1.length :: s, A.2.2.2.1, A.2.2.2.2.1, (A.1.length, i, j) :: A.2.2.2.2.2.1, A.2.2.2.2.2.2) else none
    | _, _ => none
  | _ => none
theorem as_lc {c : List (Nat × Nat × Nat)} (H : as_in ad sm fl α0 S0 mod α A lv st S) (hc : ∀ q ∈ c, lc_in fl S0 α q) : as_in ad sm fl α0 S0 mod α (A.1, A.2.1, A.2.2.1, A.2.2.2.1, A.2.2.2.2.1, c, A.2.2.2.2.2.2) lv st S := by
  obtain ⟨h1, h2, h3, h4, h5, h6, h7, h8⟩ := H
  exact ⟨h1, h2, h3, h4, h5, h6, hc, h8⟩
theorem sp_lcmp (C0 : fw_C p s0 m args meth c0 D tc A0 own cc nL) (hdg : decode cc pc = .ok (.lcmp, 1)) (h : q_lcmp A = some A') (H : as_in ad sm fl α0 S0 mod α A lv st S) (k : sp_K p l e0 R s0 m args below meth c0 Q D tc ad kd N nL A0 sm fl α0 S0 mod α n (pc + 1) A') : fw_W p l e0 R s0 m args below meth c0 Q D tc ad kd N nL A0 pc lv st S n := by
  unfold q_lcmp at h
  split at h
  · rename_i j i s hs
    split at h
    · rename_i a b ha hb
      split at h
      · rename_i hlt
        cases h
        obtain ⟨x, y, st', rfl, gx, gy, g1, g2, g3⟩ := as_pop2l H hs ha hb
        have hlen : α.length = A.1.length := H.2.1.1
        have r1 : av_in ((0, -1, 1, 1) : av_T) (0, (lg_cmp x y).toInt) := by
          refine ⟨rfl, (av_top_in _).2.1, ?_, ?_, av_one _⟩
          · unfold lg_cmp; (repeat' split) <;> decide
          · unfold lg_cmp; (repeat' split) <;> decide
        have n1 := as_pushi (d := none) g3 r1 (fun _ _ q => by cases q)
        refine fw_lcmp C0 hdg (k _ _ _ _ al_le_app (as_lc n1 (fun q hq => ?_)))
        rcases List.mem_cons.mp hq with g | g
        · subst g
          unfold lc_in
          dsimp only
          rw [if_pos hlt]
          refine ⟨(lg_cmp x y).toInt, x.toInt, y.toInt, by rw [← hlen]; exact al_last, al_le_app _ _ gx, al_le_app _ _ gy, ?_, ?_⟩
          · have := lg_cmp_lt x y
            rw [Int32.lt_iff_toInt_lt, Int64.lt_iff_toInt_lt, i32_0] at this
            exact this
          · have := lg_cmp_gt x y
            rw [Int32.lt_iff_toInt_lt, Int64.lt_iff_toInt_lt, i32_0] at this
            exact this
        · exact n1.2.2.2.2.2.2.1 q g
      · cases h
    · cases h
  · cases h
end BR
