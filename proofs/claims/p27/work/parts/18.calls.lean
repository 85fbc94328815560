/-! ===== CALLS ===== -/
def as_killm (ff : Nat → List md_T) (ms : List md_T) (A : as_T) : as_T :=
  (A.1, A.2.1, A.2.2.1, A.2.2.2.1.filter (fun q => ms.all (fun d => hf_off A.1 d.1.1 d.1.2 d.2 q)), A.2.2.2.2.1, A.2.2.2.2.2.1,
   A.2.2.2.2.2.2.1.filter (fun q => ms.all (fun d => rg_off q d.1.1 d.1.2 d.2)), A.2.2.2.2.2.2.2.1.filter (fun g => ms.all (fun d => fl_off ff d.1.1 d.1.2 d.2 g)), (match ms with | [] => A.2.2.2.2.2.2.2.2 | _ => none))
def q_al (A : as_T) (nm : List Nat) (as : List av_T) : Bool := nm.length == as.length && (nm.zip as).all (fun q => match A.1[q.1]? with | some a => av_le a.1 q.2 | none => false)
def q_ref : as_T → List (Nat × av_T) → Option as_T
  | A, [] => some A
  | A, q :: r => match A.1[q.1]? with
    | some w => (match av_both w.1 q.2 with
      | some b => q_ref (A.1.set q.1 (b, w.2), A.2) r
      | none => none)
    | none => none
/-- what is known behind a case: regions and flags -/
def as_kn (A : as_T) (c : cs_T) : as_T := (A.1, A.2.1, A.2.2.1, A.2.2.2.1, A.2.2.2.2.1, A.2.2.2.2.2.1, c.2.2.2.1 ++ A.2.2.2.2.2.2.1, c.2.2.2.2.1 ++ A.2.2.2.2.2.2.2.1, A.2.2.2.2.2.2.2.2)
/-- a result's relations noted (those that look at the contents only before the first write) -/
def as_rls (nm : List Nat) (n : Nat) (B : as_T) (rl : List (Nat × Nat × Nat)) : as_T := match B.2.2.2.2.2.2.2.2 with
  | none => B
  | some L => (B.1, B.2.1, B.2.2.1, B.2.2.2.1, B.2.2.2.2.1, (rl.filterMap (fun w => match nm[w.2.1]?, nm[w.2.2]? with
    | some i, some j => if decide (10 ≤ w.1) && decide (w.1 < 9000) && decide (n < 100000) && (L.isEmpty || decide (w.1 < 500)) then some (100000 * w.1 + n, i, j) else none
    | _, _ => none)) ++ B.2.2.2.2.2.1, B.2.2.2.2.2.2)
def q_nc (A : as_T) (nm : List Nat) (c : cs_T) : Option as_T := match q_ref A (nm.zip c.2.2.1) with
  | some B => (match c.1 with
    | 0 => some (as_kn B c)
    | 1 => some (if c.2.1.1 = 0 then as_rls nm B.1.length (q_new (as_kn B c) c.2.1 none) c.2.2.2.2.2 else q_new (as_kn B c) c.2.1 none)
    | _ => none)
  | none => none
def q_xc (na : Nat) (cs : List cs_T) (A : as_T) (nm : List Nat) (c : cs_T) : Bool := c.1 == 0 || c.1 == 1 || (match q_ref A (nm.zip c.2.2.1) with
  | some B => cs.any (q_cs (as_kn B c) none c.1 na)
  | none => true)
def q_call (ff : Nat → List md_T) (mod : List md_T) (na : Nat) (cs : List cs_T) (fr lo mc : Nat) (C : ct_T) (maxL n pc : Nat) (A : as_T) : Option sp_L :=
  if q_al A (A.2.2.1.take C.2.1.length).reverse C.2.1 && C.2.2.1.all (q_rg A) && C.2.2.2.1.all (fun g => A.2.2.2.2.2.2.2.1.contains g) && decide (C.2.2.2.2.2.2.1 + 1 ≤ fr) && decide (8 + (maxL + 11) + C.2.2.2.2.2.2.2.1 ≤ lo) && decide (n + C.2.2.2.2.2.2.2.2 ≤ mc) &&
    decide (sk_w A.1 (A.2.2.1.drop C.2.1.length) ≤ 8) && C.2.2.2.2.2.1.all (fun d => md_ok mod d.1.1 d.1.2 d.2) &&
    C.2.2.2.2.1.all (fun c => c.2.2.1.length == C.2.1.length && q_xc na cs (as_killm ff C.2.2.2.2.2.1 (q_stk A (A.2.2.1.drop C.2.1.length))) (A.2.2.1.take C.2.1.length).reverse c)
  then some (C.2.2.2.2.1.filterMap (fun c => (q_nc (as_killm ff C.2.2.2.2.2.1 (q_stk A (A.2.2.1.drop C.2.1.length))) (A.2.2.1.take C.2.1.length).reverse c).map (fun B => (pc + 3, B)))) else none
section CC
variable {p : Program} {l : Launch} {e0 : Env} {R : Room} {s0 : State} {m : MethodId} {args : Array Value} {below : List Frame} {meth : Method} {c0 : Code} {Q : State → Prop}
variable {D : va_G} {tc : Nat → ClassId} {ad : Nat → Nat} {kd : Nat → Nat × Nat} {N nL : Nat} {A0 : Nat → Prop} {own : String} {cc : ByteArray} {sm : Nat → Nat}
variable {fl : fl_T} {ff : Nat → List md_T} {α0 : List av_X} {S0 : fw_S} {mod : List md_T} {α : List av_X} {A A' : as_T} {lv : List (Nat × Value)} {st : List Value} {S : fw_S} {pc n : Nat}

theorem fr_same {S' : fw_S} (h : fr_in [] S S') : S' = S := by
  obtain ⟨a, b, c⟩ := S
  obtain ⟨a', b', c'⟩ := S'
  obtain ⟨h1, h2⟩ := h
  have g := fun k j => h1 k j (fun g => by obtain ⟨d, d1, -⟩ := g; cases d1)
  have e1 : a' = a := funext fun k => funext fun j => (g k j).1
  have e2 : b' = b := funext fun k => funext fun j => (g k j).2
  rw [e1, e2]
  congr 2
theorem as_killm_in {ms : List md_T} {S' : fw_S} (hfl : fl_ok ff fl) (H : as_in ad sm fl α0 S0 mod α A lv st S) (hf : fr_in ms S S') (hg : gi_in S') (hm : fr_in mod S0 S') : as_in ad sm fl α0 S0 mod α (as_killm ff ms A) lv st S' := by
  obtain ⟨h1, h2, h3, h4, h5, h6, h7, h8, h9, h10, h11, h12⟩ := H
  refine ⟨h1, h2, h3, h4, fun q hq => ?_, h6, h7, fun q hq => ?_, fun q hq => ?_, hg, hm, ?_⟩
  · obtain ⟨q1, q2⟩ := List.mem_filter.mp hq
    obtain ⟨k, j, x, g1, g2, g3, g4, g5, g6⟩ := h5 q q1
    refine ⟨k, j, x, g1, g2, g3, g4, g5, ?_⟩
    rw [← g6]
    refine ct_X_same hf.2 (hf.1 _ _ (fun g => ?_))
    obtain ⟨d, d1, d2, d3, d4⟩ := g
    obtain ⟨a1, b1, b2, -⟩ := en_some h2 g1
    obtain ⟨a2, b3, b4, -⟩ := en_some h2 g2
    have q2 := List.all_eq_true.mp q2 d d1
    unfold hf_off at q2
    rw [b1, b3] at q2
    simp only [Bool.or_eq_true, Bool.and_eq_true, decide_eq_true_eq] at q2
    have l1 := b2.2.2.1
    have l2 := b2.2.2.2.1
    dsimp only at l1 l2
    rcases q2 with (q2 | q2) | ⟨q2, q3⟩
    · omega
    · omega
    · exact pg_no_in q3 (pg_of_in b4 q2) d4
  · obtain ⟨q1, q2⟩ := List.mem_filter.mp hq
    intro k j g1 g2 g3
    rw [(hf.1 k j (fun g => by
      obtain ⟨d, d1, d2, d3, d4⟩ := g
      exact rg_off_in (List.all_eq_true.mp q2 d d1) d2 d3 d4 g1 g2 g3)).1]
    exact h8 q q1 k j g1 g2 g3
  · obtain ⟨q1, q2⟩ := List.mem_filter.mp hq
    cases ms with
    | nil => rw [fr_same hf]; exact h9 q q1
    | cons d0 ms' =>
    have hq9 : q < 1000 := by
      have := List.all_eq_true.mp q2 d0 List.mem_cons_self
      rw [fl_off, Bool.and_eq_true, decide_eq_true_eq] at this
      exact this.1
    refine hfl.1 q S S' hq9 (fun k j hk => hf.1 k j (fun g => ?_)) hf.2 (h9 q q1)
    obtain ⟨d, d1, d2, d3, d4⟩ := g
    obtain ⟨w, w1, w2, w3, w4⟩ := hk
    have q3 := List.all_eq_true.mp q2 d d1
    rw [fl_off, Bool.and_eq_true] at q3
    exact md_off_in (List.all_eq_true.mp q3.2 w w1) d2 d3 d4 w2 w3 w4
  · cases ms with
    | nil => rw [fr_same hf]; exact h12
    | cons _ _ => trivial
theorem fr_comp {ms : List md_T} {S' : fw_S} (h1 : fr_in mod S0 S) (h2 : fr_in ms S S') (h : ms.all (fun d => md_ok mod d.1.1 d.1.2 d.2) = true) : fr_in mod S0 S' := by
  refine ⟨fun k j hk => ?_, h2.2.trans h1.2⟩
  obtain ⟨g1, g2⟩ := h2.1 k j (fun g => by
    obtain ⟨d, d1, d2, d3, d4⟩ := g
    obtain ⟨q, q1, q2⟩ := List.any_eq_true.mp (List.all_eq_true.mp h d d1)
    simp only [md_has, Bool.and_eq_true, decide_eq_true_eq] at q2
    exact hk ⟨q, q1, Nat.le_trans q2.1.1 d2, Nat.le_trans d3 q2.1.2, pg_le_in q2.2 d4⟩)
  obtain ⟨k1, k2⟩ := h1.1 k j hk
  exact ⟨g1.trans k1, g2.trans k2⟩
/-- names and their numbers -/
def nm_in (α : List av_X) (nm : List Nat) (ys : List av_X) : Prop := ys.length = nm.length ∧ ∀ (i v : Nat), nm[i]? = some v → ∃ x, ys[i]? = some x ∧ α[v]? = some x
theorem nm_cons {v : Nat} {x : av_X} {nm : List Nat} {ys : List av_X} (h : α[v]? = some x) (hr : nm_in α nm ys) : nm_in α (v :: nm) (x :: ys) := by
  refine ⟨by simp [hr.1], fun i w hw => ?_⟩
  cases i with
  | zero => cases hw; exact ⟨x, rfl, h⟩
  | succ i => exact hr.2 i w hw
theorem nm_rev {nm : List Nat} {ys : List av_X} (h : nm_in α nm ys) : nm_in α nm.reverse ys.reverse := by
  refine ⟨by simp [h.1], fun i v hv => ?_⟩
  have hi : i < nm.reverse.length := (List.getElem?_eq_some_iff.mp hv).1
  rw [List.length_reverse] at hi
  rw [List.getElem?_reverse hi] at hv
  rw [List.getElem?_reverse (by rw [h.1]; exact hi), h.1]
  exact h.2 _ v hv
theorem sk_take : ∀ (k : Nat) {s : List Nat} {st : List Value}, k ≤ s.length → sk_in ad sm α s st → ∃ ys, nm_in α (s.take k) ys ∧ st = ys.map (av_V ad sm) ++ st.drop k ∧ sk_in ad sm α (s.drop k) (st.drop k)
  | 0, s, st, _, h => ⟨[], ⟨rfl, fun i v hv => by simp at hv⟩, rfl, h⟩
  | k + 1, i :: r, v :: w, hk, h => by
    obtain ⟨⟨x, h1, rfl⟩, h2⟩ := h
    obtain ⟨ys, g1, g2, g3⟩ := sk_take k (by simpa using hk) h2
    exact ⟨x :: ys, nm_cons h1 g1, by rw [List.map_cons, List.cons_append, List.drop_succ_cons, ← g2], g3⟩
  | k + 1, [], _, hk, _ => by simp at hk
  | k + 1, _ :: _, [], _, h => h.elim
theorem q_al_in {nm : List Nat} {as : List av_T} {ys : List av_X} (h : q_al A nm as = true) (he : en_in α A.1) (hy : nm_in α nm ys) : en_in ys (en_of as) := by
  rw [q_al, Bool.and_eq_true, beq_iff_eq] at h
  refine ⟨by simp [en_of, hy.1, h.1], fun i q hq => ?_⟩
  unfold en_of at hq
  rw [List.getElem?_map] at hq
  cases ha : as[i]? with
  | none => rw [ha] at hq; cases hq
  | some a =>
    rw [ha] at hq
    cases hq
    have hi : i < as.length := (List.getElem?_eq_some_iff.mp ha).1
    have hv : nm[i]? = some nm[i] := List.getElem?_eq_getElem (by omega)
    obtain ⟨x, x1, x2⟩ := hy.2 i _ hv
    obtain ⟨b, b1, b2, -⟩ := en_some he x2
    have hz : (nm.zip as)[i]? = some (nm[i], a) := by
      rw [List.getElem?_zip_eq_some]
      exact ⟨hv, ha⟩
    have h3 := List.all_eq_true.mp h.2 _ (List.mem_of_getElem? hz)
    dsimp only at h3
    rw [b1] at h3
    exact ⟨x, x1, av_le_in h3 b2, fun _ _ z => by cases z⟩
theorem q_ref_in : ∀ {l : List (Nat × av_T)} {A : as_T}, (∀ q ∈ l, ∃ x, α[q.1]? = some x ∧ av_in q.2 x) → as_in ad sm fl α0 S0 mod α A lv st S → ∃ B, q_ref A l = some B ∧ B.2 = A.2 ∧ as_in ad sm fl α0 S0 mod α B lv st S
  | [], A, _, H => ⟨A, rfl, rfl, H⟩
  | q :: r, A, h, H => by
    obtain ⟨x, x1, x2⟩ := h q List.mem_cons_self
    obtain ⟨w, w1, w2, -⟩ := en_some H.2.1 x1
    obtain ⟨b, b1, b2⟩ := av_both_in w2 x2
    obtain ⟨B, g1, g2, g3⟩ := q_ref_in (l := r) (fun q hq => h q (List.mem_cons_of_mem _ hq)) (as_set H x1 w1 b2)
    refine ⟨B, ?_, g2, g3⟩
    rw [q_ref, w1]
    dsimp only
    rw [b1]
    exact g1
theorem nm_zip {nm : List Nat} {ys : List av_X} {as : List av_T} (hy : nm_in α nm ys) (he : en_in ys (en_of as)) : ∀ q ∈ nm.zip as, ∃ x, α[q.1]? = some x ∧ av_in q.2 x := by
  intro q hq
  obtain ⟨i, hi, hqi⟩ := List.mem_iff_getElem.mp hq
  have hz : (nm.zip as)[i]? = some q := by rw [List.getElem?_eq_getElem hi, hqi]
  rw [List.getElem?_zip_eq_some] at hz
  obtain ⟨x, x1, x2⟩ := hy.2 i _ hz.1
  obtain ⟨x', y1, y2, -⟩ := he.2 i (q.2, none) (by unfold en_of; rw [List.getElem?_map, hz.2]; rfl)
  cases y1.symm.trans x1
  exact ⟨x, x2, y2⟩
theorem as_kn_in {c : cs_T} (H : as_in ad sm fl α0 S0 mod α A lv st S) (hr : ∀ r ∈ c.2.2.2.1, rg_in S r) (hf : ∀ g ∈ c.2.2.2.2.1, fl g 0 0 0 S) : as_in ad sm fl α0 S0 mod α (as_kn A c) lv st S := by
  obtain ⟨h1, h2, h3, h4, h5, h6, h7, h8, h9, h10⟩ := H
  exact ⟨h1, h2, h3, h4, h5, h6, h7, fun q hq => (List.mem_append.mp hq).elim (hr q) (h8 q), fun q hq => (List.mem_append.mp hq).elim (hf q) (h9 q), h10⟩
theorem as_rls_in {nm : List Nat} {ys : List av_X} {n : Nat} {v : Int32} {rl : List (Nat × Nat × Nat)} {S1 : fw_S} (hfl : fl_ok ff fl) (H : as_in ad sm fl α0 S0 mod α A lv st S) (hn : ∀ L, A.2.2.2.2.2.2.2.2 = some L → α[n]? = some (0, v.toInt)) (hy : nm_in α nm ys) (hS : A.2.2.2.2.2.2.2.2 = some [] → S1 = S0)
    (hr : ∀ w ∈ rl, ∃ x y : av_X, ys[w.2.1]? = some x ∧ ys[w.2.2]? = some y ∧ fl w.1 v.toInt x.2 y.2 S1) : as_in ad sm fl α0 S0 mod α (as_rls nm n A rl) lv st S := by
  unfold as_rls
  split
  · exact H
  · rename_i L hL
    have hn := hn L hL
    obtain ⟨g1, g2, g3, g4, g5, g6, g7, g8⟩ := H
    refine ⟨g1, g2, g3, g4, g5, g6, fun q hq => ?_, g8⟩
    rcases List.mem_append.mp hq with g | g
    · obtain ⟨w, w1, w2⟩ := List.mem_filterMap.mp g
      split at w2
      · rename_i i j hi hj
        split at w2
        · rename_i hc
          cases w2
          simp only [Bool.and_eq_true, Bool.or_eq_true, decide_eq_true_eq] at hc
          obtain ⟨⟨⟨c1, c0⟩, c2⟩, c3⟩ := hc
          obtain ⟨x, y, x1, x2, x3⟩ := hr w w1
          obtain ⟨x', i1, i2⟩ := hy.2 _ _ hi
          cases i1.symm.trans x1
          obtain ⟨y', j1, j2⟩ := hy.2 _ _ hj
          cases j1.symm.trans x2
          unfold lc_in
          dsimp only
          rw [if_neg (by omega), show (100000 * w.1 + n) / 100000 = w.1 by omega, show (100000 * w.1 + n) % 100000 = n by omega]
          refine ⟨x, y, i2, j2, ?_⟩
          have h0 : fl w.1 v.toInt x.2 y.2 S0 := by
            rcases c3 with c3 | c3
            · rw [List.isEmpty_iff.mp c3] at hL
              rw [← hS hL]
              exact x3
            · exact hfl.2 _ _ _ _ _ _ c3 x3
          split
          · omega
          · omega
          · omega
          · omega
          · omega
          · omega
          · omega
          · omega
          · omega
          · omega
          · omega
          · omega
          · exact ⟨_, hn, by rw [if_neg (by omega)]; exact h0⟩
        · cases w2
      · cases w2
    · exact g7 q g
/-- a call's start -/
theorem q_call_in {cs : List cs_T} {na fr lo mc maxL : Nat} {Cc : ct_T} {L : sp_L} (hfl : fl_ok ff fl) (h : q_call ff mod na cs fr lo mc Cc maxL n pc A = some L) (H : as_in ad sm fl α0 S0 mod α A lv st S) (hna : α0.length = na) :
    ∃ (ys : List av_X) (rest : List Value), st = (ys.reverse).map (av_V ad sm) ++ rest ∧ nm_in α (A.2.2.1.take Cc.2.1.length).reverse ys ∧ en_in ys (en_of Cc.2.1) ∧ (∀ r ∈ Cc.2.2.1, rg_in S r) ∧ (∀ g ∈ Cc.2.2.2.1, fl g 0 0 0 S) ∧ gi_in S ∧ fw_R (fw_rm fr lo mc) maxL Cc.2.2.2.2.2.2.1 Cc.2.2.2.2.2.2.2.1 n Cc.2.2.2.2.2.2.2.2 rest ∧ n + Cc.2.2.2.2.2.2.2.2 ≤ mc ∧
      (∀ (r : Option Value) (S' : fw_S), ct_post ad sm fl Cc.2.2.2.2.2.1 Cc.2.2.2.2.1 ys S (.inl r) S' → ∃ (B : as_T) (β : List av_X), (pc + 3, B) ∈ L ∧ al_le α β ∧ as_in ad sm fl α0 S0 mod β B lv (r.toList ++ rest) S') ∧
      (∀ (E : String) (S' : fw_S), ct_post ad sm fl Cc.2.2.2.2.2.1 Cc.2.2.2.2.1 ys S (.inr E) S' → ct_post ad sm fl mod cs α0 S0 (.inr E) S') := by
  unfold q_call at h
  split at h
  · rename_i hc
    cases h
    simp only [Bool.and_eq_true, decide_eq_true_eq] at hc
    obtain ⟨⟨⟨⟨⟨⟨⟨⟨c1, c2⟩, c3⟩, c4⟩, c5⟩, c6⟩, c7⟩, c8⟩, c9⟩ := hc
    have hlen : Cc.2.1.length ≤ A.2.2.1.length := by
      rw [q_al, Bool.and_eq_true, beq_iff_eq, List.length_reverse, List.length_take] at c1
      omega
    obtain ⟨ys, y1, y2, y3⟩ := sk_take _ hlen H.2.2.2.1
    have y4 := nm_rev y1
    have H2 : as_in ad sm fl α0 S0 mod α (q_stk A (A.2.2.1.drop Cc.2.1.length)) lv (st.drop Cc.2.1.length) S := by
      obtain ⟨h1, h2, h3, -, h5⟩ := H
      exact ⟨h1, h2, h3, y3, h5⟩
    have hw := sk_w_in H.2.1 y3
    refine ⟨ys.reverse, st.drop Cc.2.1.length, by rw [List.reverse_reverse]; exact y2, y4, q_al_in c1 H.2.1 y4, fun r hr => q_rg_in (List.all_eq_true.mp c2 r hr) H, fun g hg => H.2.2.2.2.2.2.2.2.1 g (by simpa using List.all_eq_true.mp c3 g hg), H.2.2.2.2.2.2.2.2.2.1, ⟨c4, c5, c6, Nat.mul_le_mul_left 6 c6, by rw [hw]; exact c7⟩, c6, fun r S' hp => ?_, fun E S' hp => ?_⟩
    · obtain ⟨c, d1, d2, d3, d4, d5, dr, d6, d7⟩ := hp
      obtain ⟨B, b1, b2, b3⟩ := q_ref_in (nm_zip y4 d3) (as_killm_in hfl H2 d7 d6 (fr_comp H2.2.2.2.2.2.2.2.2.2.2.1 d7 c8))
      have b4 := as_kn_in b3 d4 d5
      match hk : c.1, d2 with
      | 0, d2 =>
        cases d2
        refine ⟨as_kn B c, α, List.mem_filterMap.mpr ⟨c, d1, ?_⟩, al_le.refl, b4⟩
        unfold q_nc
        rw [b1, hk]
        rfl
      | 1, ⟨x, e1, e2⟩ =>
        cases e1
        have b5 := as_push (d := none) (as_q b4 rfl) e2 (fun _ _ z => by cases z)
        by_cases hk0 : c.2.1.1 = 0
        · have hi := av_int e2 hk0
          obtain ⟨kx, mx⟩ := x
          have hkx : kx = 0 := e2.1.trans hk0
          subst hkx
          dsimp only at hi
          refine ⟨as_rls (A.2.2.1.take Cc.2.1.length).reverse B.1.length (q_new (as_kn B c) c.2.1 none) c.2.2.2.2.2, α ++ [(0, mx)], List.mem_filterMap.mpr ⟨c, d1, ?_⟩, al_le_app, ?_⟩
          · unfold q_nc
            rw [b1, hk]
            dsimp only
            rw [if_pos hk0]
            rfl
          · refine as_rls_in (ys := ys.reverse) (v := Int32.ofInt mx) (S1 := S) hfl b5 (fun L _ => by have := b3.2.1.1; rw [← this, hi]; exact al_last) ⟨y4.1, fun i w hw => by obtain ⟨x, x1, x2⟩ := y4.2 i w hw; exact ⟨x, x1, al_le_app _ _ x2⟩⟩ (fun hz => ?_) (fun w hw => dr w hw (Int32.ofInt mx) rfl)
            have hz2 : A.2.2.2.2.2.2.2.2 = some [] := by
              have e1 : (as_killm ff Cc.2.2.2.2.2.1 (q_stk A (A.2.2.1.drop Cc.2.1.length))).2.2.2.2.2.2.2.2 = some [] := by rw [← b2]; exact hz
              unfold as_killm at e1
              dsimp only at e1
              split at e1
              · exact e1
              · cases e1
            have h12 := H.2.2.2.2.2.2.2.2.2.2.2
            rw [hz2] at h12
            exact h12
        · refine ⟨q_new (as_kn B c) c.2.1 none, α ++ [x], List.mem_filterMap.mpr ⟨c, d1, ?_⟩, al_le_app, b5⟩
          unfold q_nc
          rw [b1, hk]
          dsimp only
          rw [if_neg hk0]
          rfl
      | i + 2, d2 => cases d2
    · obtain ⟨c, d1, d2, d3, d4, d5, dr, d6, d7⟩ := hp
      obtain ⟨B, b1, b2, b3⟩ := q_ref_in (nm_zip y4 d3) (as_killm_in hfl H2 d7 d6 (fr_comp H2.2.2.2.2.2.2.2.2.2.2.1 d7 c8))
      have b4 := as_kn_in b3 d4 d5
      have c9 := List.all_eq_true.mp c9 c d1
      rw [Bool.and_eq_true] at c9
      have c9 := c9.2
      unfold q_xc at c9
      rw [b1] at c9
      match hk : c.1, d2 with
      | 0, d2 => cases d2
      | 1, ⟨x, e1, e2⟩ => cases e1
      | i + 2, d2 =>
        rw [hk] at c9
        dsimp only at c9
        have c10 : cs.any (q_cs (as_kn B c) none (i + 2) na) = true := by simpa using c9
        exact q_cs_in c10 b4 hna (fun a _ => d2) (fun _ z => by cases z)
  · cases h
end CC

