/-! ===== THE ENGINE: arrivals, runs, contracts out of a check ===== -/
def q_fd (na : Nat) (An B : as_T) (i : Nat) : Nat := if i < na then i else match An.2.1.find? (fun w => w.2 == i) with
  | some w => (as_loc B.2.1 w.1).getD 0
  | none => (B.2.2.1[An.2.2.1.findIdx (fun w => w == i)]?).getD 0
def q_mu (na : Nat) (An B : as_T) : List Nat := (List.range An.1.length).map (q_fd na An B)
def q_meq (B : as_T) (mu : List Nat) (a b : me_T) : Bool := a.1 == b.1 && (match a.1 with
  | 0 => a.2.2.toNat == b.2.2.toNat
  | _ => (match mu[a.2.1]?, q_av B b.2.1 0 with
    | some v, some _ => (match q_av B v 0 with
      | some _ => a.2.2 == b.2.2 && (q_lin B.1 v 0).1 == (q_lin B.1 b.2.1 0).1 && (q_lin B.1 v 0).2 == (q_lin B.1 b.2.1 0).2
      | none => false)
    | _, _ => false))
def q_mlt (B : as_T) (mu : List Nat) (a b : me_T) : Bool := a.1 == b.1 && (match a.1 with
  | 0 => decide (a.2.2.toNat < b.2.2.toNat)
  | k + 1 => (match mu[a.2.1]?, q_av B b.2.1 0 with
    | some v, some w => (match q_av B v 0 with
      | some _ => a.2.2 == b.2.2 && (q_lin B.1 v 0).1 == (q_lin B.1 b.2.1 0).1 && (if k = 0 then decide ((q_lin B.1 b.2.1 0).2 < (q_lin B.1 v 0).2) && decide (w.2.2.1 < b.2.2) else decide ((q_lin B.1 v 0).2 < (q_lin B.1 b.2.1 0).2) && decide (b.2.2 < w.2.1))
      | none => false)
    | _, _ => false))
def q_lx (B : as_T) (mu : List Nat) : List me_T → List me_T → Bool
  | a :: r, b :: w => q_mlt B mu a b || (q_meq B mu a b && q_lx B mu r w)
  | _, _ => false
def q_arr (na : Nat) (hd : Option (List me_T)) (n : Nat) (B : as_T) (q : an_T) : Bool :=
  decide (n ≤ q.2.1) && decide (na ≤ q.2.2.1.1.length) && q.2.2.1.2.2.2.1.isEmpty && q.2.2.1.2.2.2.2.2.1.isEmpty && q.2.2.1.2.2.2.2.2.2.2.2.isNone &&
  (q.2.2.1.1.zip (q_mu na q.2.2.1 B)).all (fun w => w.1.2.isNone && (match B.1[w.2]? with | some b => av_le b.1 w.1.1 | none => false)) &&
  q.2.2.1.2.1.all (fun w => (match as_loc B.2.1 w.1, (q_mu na q.2.2.1 B)[w.2]? with | some v, some u => v == u | _, _ => false)) &&
  decide (q.2.2.1.2.2.1.map (fun i => (q_mu na q.2.2.1 B)[i]?) = B.2.2.1.map some) &&
  q.2.2.1.2.2.2.2.1.all (fun w => (match (q_mu na q.2.2.1 B)[w.1]? with | some v => B.2.2.2.2.1.contains (v, w.2) || (match B.1[v]? with | some b => decide (w.2 < b.1.2.1) || decide (b.1.2.2.1 < w.2) | none => false) | none => false)) &&
  q.2.2.1.2.2.2.2.2.2.1.all (q_rg B) && q.2.2.1.2.2.2.2.2.2.2.1.all (fun g => B.2.2.2.2.2.2.2.1.contains g) &&
  (match hd with | some ms => q_lx B (q_mu na q.2.2.1 B) q.2.2.2 ms | none => true)
/-- a local's number that is to be looked at one by one -/
def q_spl (A : as_T) (k : Nat) : Option (Nat × en_E) := match as_loc A.2.1 k with
  | some i => (match A.1[i]? with
    | some a => if a.1.1 = 0 ∧ a.1.2.1 < a.1.2.2.1 then some (i, a) else none
    | none => none)
  | none => none
def en_run (oc nL fr lo mc na : Nat) (ret : Option FieldType) (ff : Nat → List md_T) (mod : List md_T) (cs : List cs_T) (Cs : List ct_T) (cc : ByteArray) (an : List an_T) (ss : List (Nat × Nat)) : Nat → Bool → Option (List me_T) → Nat → Nat → as_T → Bool
  | 0, _, _, _, _, _ => false
  | f + 1, first, hd, n, pc, A => (match (if first then none else an.find? (fun q => q.1 == pc)) with
    | some q => q_arr na hd n A q
    | none => (match (ss.find? (fun w => w.1 == pc)).bind (fun w => q_spl A w.2) with
      | some w => (List.range ((w.2.1.2.2.1 - w.2.1.2.1).toNat + 1)).all (fun t => en_run oc nL fr lo mc na ret ff mod cs Cs cc an ss f first hd n pc (A.1.set w.1 ((0, w.2.1.2.1 + t, w.2.1.2.1 + t, 0), w.2.2), A.2))
      | none => (match decode cc pc with
        | .ok (i, len) => (match q_nx oc nL fr lo mc na ret ff mod cs Cs n pc len i A with
          | some (k, L) => L.all (fun w => en_run oc nL fr lo mc na ret ff mod cs Cs cc an ss f false hd (n + k) w.1 w.2)
          | none => false)
        | .error _ => false)))
section ER
variable {p : Program} {l : Launch} {e0 : Env} {s0 : State} {m : MethodId} {args : Array Value} {below : List Frame} {meth : Method} {c0 : Code}
variable {D : va_G} {tc : Nat → ClassId} {ad : Nat → Nat} {kd : Nat → Nat × Nat} {N nL : Nat} {own : String} {cc : ByteArray} {sm : Nat → Nat}
variable {fl : fl_T} {ff : Nat → List md_T} {α0 : List av_X} {S0 : fw_S} {mod : List md_T} {α : List av_X} {A A' : as_T} {lv : List (Nat × Value)} {st : List Value} {S : fw_S} {pc n : Nat}

variable {oc fr lo mc na : Nat} {ret : Option FieldType} {cs : List cs_T} {Cs : List ct_T} {sz : Nat}
theorem q_lx_in {B : as_T} {β αh α' : List av_X} {mu : List Nat} (he : en_in β B.1) (hle : al_le αh β) (hm : ∀ (i v : Nat) (x : av_X), mu[i]? = some v → β[v]? = some x → α'[i]? = some x) (hh : ∀ (i : Nat) (x : av_X) (q : en_E), β[i]? = some x → i < αh.length → αh[i]? = some x) :
    ∀ {a b : List me_T}, (∀ w ∈ b, w.1 = 0 ∨ w.2.1 < αh.length) → q_lx B mu a b = true → lx (a.map (me_val α')) (b.map (me_val αh))
  | [], [], _, h => by cases h
  | [], _ :: _, _, h => by cases h
  | _ :: _, [], _, h => by cases h
  | a :: r, b :: w, hb, h => by
    rw [List.map_cons, List.map_cons]
    have hb0 := hb b List.mem_cons_self
    have key : ∀ (v : Nat) (wa wv : av_T), mu[a.2.1]? = some v → q_av B b.2.1 0 = some wa → q_av B v 0 = some wv → b.2.1 < αh.length → ∃ x y : Int, α'[a.2.1]? = some (0, x) ∧ αh[b.2.1]? = some (0, y) ∧ wa.2.1 ≤ y ∧ y ≤ wa.2.2.1 ∧ ∃ bx by' : Int, β[(q_lin B.1 v 0).1]? = some (0, bx) ∧ x = bx + (q_lin B.1 v 0).2 ∧ β[(q_lin B.1 b.2.1 0).1]? = some (0, by') ∧ y = by' + (q_lin B.1 b.2.1 0).2 := by
      intro v wa wv h1 h2 h3 h4
      obtain ⟨d2, a1, a2⟩ := q_av_some h2
      obtain ⟨d3, a3, a4⟩ := q_av_some h3
      obtain ⟨X, b1, b2, -⟩ := he.2 _ _ a3
      obtain ⟨Y, b3, b4, -⟩ := he.2 _ _ a1
      obtain ⟨kx, x⟩ := X
      obtain ⟨ky, y⟩ := Y
      have ex : kx = 0 := b2.1.trans a4
      have ey : ky = 0 := b4.1.trans a2
      subst ex ey
      obtain ⟨u, u1, u2⟩ := q_lin_in (o := 0) he b1
      obtain ⟨t, t1, t2⟩ := q_lin_in (o := 0) he b3
      exact ⟨x, y, hm _ _ _ h1 b1, hh _ _ (wa, d2) b3 h4, b4.2.2.1, b4.2.2.2.1, u, t, u1, by omega, t1, by omega⟩
    rw [q_lx, Bool.or_eq_true, Bool.and_eq_true] at h
    rcases h with h | ⟨h, h2⟩
    · refine Or.inl ?_
      rw [q_mlt, Bool.and_eq_true, beq_iff_eq] at h
      obtain ⟨hk, h⟩ := h
      split at h
      · rename_i h0
        rw [me_val, me_val, h0, ← hk, h0]
        exact of_decide_eq_true h
      · rename_i k h0
        split at h
        · rename_i v wa hv hwa
          split at h
          · rename_i wv hwv
            have hlt : b.2.1 < αh.length := by
              rcases hb0 with g | g
              · rw [← hk, h0] at g; cases g
              · exact g
            obtain ⟨x, y, x1, x2, x3, x4, bx, by', x5, x6, x7, x8⟩ := key v wa wv hv hwa hwv hlt
            simp only [Bool.and_eq_true, beq_iff_eq] at h
            obtain ⟨⟨hc, hl⟩, h⟩ := h
            have hb1 : bx = by' := by rw [hl] at x5; have := x5.symm.trans x7; simpa using this
            rw [me_val, me_val, h0, ← hk, h0, x1, x2]
            split at h
            · rename_i hk0
              subst hk0
              simp only [Bool.and_eq_true, decide_eq_true_eq] at h
              show (a.2.2 - x).toNat < (b.2.2 - y).toNat
              omega
            · rename_i hk0
              simp only [Bool.and_eq_true, decide_eq_true_eq] at h
              obtain ⟨k', rfl⟩ : ∃ k', k = k' + 1 := ⟨k - 1, by omega⟩
              show (x - a.2.2).toNat < (y - b.2.2).toNat
              omega
          · cases h
        · cases h
    · refine Or.inr ⟨?_, q_lx_in he hle hm hh (fun w hw => hb w (List.mem_cons_of_mem _ hw)) h2⟩
      rw [q_meq, Bool.and_eq_true, beq_iff_eq] at h
      obtain ⟨hk, h⟩ := h
      split at h
      · rename_i h0
        rw [me_val, me_val, h0, ← hk, h0]
        simpa using h
      · rename_i h0
        split at h
        · rename_i v wa hv hwa
          split at h
          · rename_i wv hwv
            have hlt : b.2.1 < αh.length := by
              rcases hb0 with g | g
              · exact absurd (hk.trans g) h0
              · exact g
            obtain ⟨x, y, x1, x2, x3, x4, bx, by', x5, x6, x7, x8⟩ := key v wa wv hv hwa hwv hlt
            simp only [Bool.and_eq_true, beq_iff_eq] at h
            obtain ⟨⟨hc, hl⟩, h⟩ := h
            have hb1 : bx = by' := by rw [hl] at x5; have := x5.symm.trans x7; simpa using this
            have hxy : x = y := by omega
            rw [me_val, me_val, ← hk, x1, x2, hc, hxy]
          · cases h
        · cases h
/-- an arrival: the noted state holds, of numbers of its own -/
theorem q_arr_in {hd : Option (List me_T)} {q : an_T} {αh : List av_X} (h : q_arr na hd n A q = true) (H : as_in ad sm fl α0 S0 mod α A lv st S) (hna : α0.length = na) (hle : al_le αh α) (hhd : ∀ ms, hd = some ms → ∀ w ∈ ms, w.1 = 0 ∨ w.2.1 < αh.length) :
    n ≤ q.2.1 ∧ as_in ad sm fl α0 S0 mod ((q_mu na q.2.2.1 A).map (fun v => (α[v]?).getD (0, 0))) q.2.2.1 lv st S ∧ ∀ ms, hd = some ms → lx (q.2.2.2.map (me_val ((q_mu na q.2.2.1 A).map (fun v => (α[v]?).getD (0, 0))))) (ms.map (me_val αh)) := by
  simp only [q_arr, Bool.and_eq_true, decide_eq_true_eq] at h
  obtain ⟨⟨⟨⟨⟨⟨⟨⟨⟨⟨⟨c1, c2⟩, c3⟩, c4⟩, cz⟩, c5⟩, c6⟩, c7⟩, c8⟩, c9⟩, c10⟩, c11⟩ := h
  have hm : ∀ (i v : Nat) (x : av_X), (q_mu na q.2.2.1 A)[i]? = some v → α[v]? = some x → ((q_mu na q.2.2.1 A).map (fun v => (α[v]?).getD (0, 0)))[i]? = some x := by
    intro i v x h1 h2
    rw [List.getElem?_map, h1, Option.map_some, h2]
    rfl
  refine ⟨c1, ?_, ?_⟩
  · have hlen : (q_mu na q.2.2.1 A).length = q.2.2.1.1.length := by simp [q_mu]
    have hid : ∀ i, i < na → (q_mu na q.2.2.1 A)[i]? = some i := by
      intro i hi
      unfold q_mu
      rw [List.getElem?_map, List.getElem?_range (by omega)]
      show some (q_fd na q.2.2.1 A i) = some i
      rw [q_fd, if_pos hi]
    refine ⟨fun i x hx => ?_, ⟨by rw [List.length_map]; exact hlen, fun i w hw => ?_⟩, fun w hw => ?_, ?_, fun w hw => ?_, fun w hw => ?_, fun w hw => ?_, fun r hr => q_rg_in (List.all_eq_true.mp c9 r hr) H, fun g hg => H.2.2.2.2.2.2.2.2.1 g (by simpa using List.all_eq_true.mp c10 g hg), H.2.2.2.2.2.2.2.2.2.1, H.2.2.2.2.2.2.2.2.2.2.1, by rw [Option.isNone_iff_eq_none.mp cz]; trivial⟩
    · have hi : i < na := by rw [← hna]; exact (List.getElem?_eq_some_iff.mp hx).1
      exact hm i i x (hid i hi) (H.1 i x hx)
    · have hi : i < q.2.2.1.1.length := (List.getElem?_eq_some_iff.mp hw).1
      have hv : (q_mu na q.2.2.1 A)[i]? = some (q_mu na q.2.2.1 A)[i] := List.getElem?_eq_getElem (by omega)
      have hz : (q.2.2.1.1.zip (q_mu na q.2.2.1 A))[i]? = some (w, (q_mu na q.2.2.1 A)[i]) := by
        rw [List.getElem?_zip_eq_some]
        exact ⟨hw, hv⟩
      have h5 := List.all_eq_true.mp c5 _ (List.mem_of_getElem? hz)
      rw [Bool.and_eq_true] at h5
      obtain ⟨h5, h6⟩ := h5
      split at h6
      · rename_i b hb
        obtain ⟨x, x1, x2, -⟩ := H.2.1.2 _ _ hb
        refine ⟨x, hm i _ x hv x1, av_le_in h6 x2, fun b o hbo => ?_⟩
        dsimp only at h5
        rw [hbo] at h5
        cases h5
      · cases h6
    · have h6 := List.all_eq_true.mp c6 w hw
      split at h6
      · rename_i v u hv hu
        have : v = u := by simpa using h6
        subst this
        obtain ⟨x, x1, x2⟩ := as_local (as_q H rfl) hv
        exact ⟨x, hm _ _ x hu x1, x2⟩
      · cases h6
    · have go : ∀ (l s : List Nat) (st : List Value), l.map (fun i => (q_mu na q.2.2.1 A)[i]?) = s.map some → sk_in ad sm α s st → sk_in ad sm ((q_mu na q.2.2.1 A).map (fun v => (α[v]?).getD (0, 0))) l st := by
        intro l
        induction l with
        | nil =>
          intro s st h1 h2
          cases s with
          | nil => cases st with
            | nil => trivial
            | cons _ _ => exact h2.elim
          | cons _ _ => cases h1
        | cons i r ih =>
          intro s st h1 h2
          cases s with
          | nil => cases h1
          | cons v w =>
            cases st with
            | nil => exact h2.elim
            | cons y z =>
              rw [List.map_cons, List.map_cons] at h1
              injection h1 with g1 g2
              obtain ⟨⟨x, x1, x2⟩, h3⟩ := h2
              exact ⟨⟨x, hm i v x g1 x1, x2⟩, ih w z g2 h3⟩
      exact go _ _ _ c7 H.2.2.2.1
    · rw [List.isEmpty_iff] at c3
      rw [c3] at hw
      cases hw
    · have h8 := List.all_eq_true.mp c8 w hw
      split at h8
      · rename_i v hv
        rw [Bool.or_eq_true] at h8
        rcases h8 with g | g
        · obtain ⟨x, x1, x2⟩ := H.2.2.2.2.2.1 (v, w.2) (by simpa using g)
          exact ⟨x, hm _ _ x hv x1, x2⟩
        · split at g
          · rename_i b hb
            obtain ⟨x, x1, x2, -⟩ := H.2.1.2 _ _ hb
            refine ⟨x, hm _ _ x hv x1, fun e => ?_⟩
            have l1 := x2.2.2.1
            have l2 := x2.2.2.2.1
            simp only [Bool.or_eq_true, decide_eq_true_eq] at g
            rw [e] at l1 l2
            omega
          · cases g
      · cases h8
    · rw [List.isEmpty_iff] at c4
      rw [c4] at hw
      cases hw
  · intro ms hms
    rw [hms] at c11
    refine q_lx_in H.2.1 hle hm (fun i x _ hx hi => ?_) (hhd ms hms) c11
    have h1 : αh[i]? = some αh[i] := List.getElem?_eq_getElem hi
    rw [h1, ← hle _ _ h1, hx]
theorem fw_W_mono {Q : State → Prop} {R : Room} {A0 : Nat → Prop} {n' : Nat} (hn : n ≤ n') (h : fw_W p l e0 R s0 m args below meth c0 Q D tc ad kd N nL A0 pc lv st S n') : fw_W p l e0 R s0 m args below meth c0 Q D tc ad kd N nL A0 pc lv st S n :=
  fun H locs ls cells slots h1 h2 => h H locs ls cells slots (Nat.le_trans h1 hn) (Nat.le_trans h2 (Nat.mul_le_mul_left 6 hn))
theorem en_run_in (C0 : fw_C p s0 m args meth c0 D tc (fw_Af ad N sz) own cc nL) (hSt : fw_St sm (fw_Af ad N sz) s0 s0.heap) (hK : kd_okl l kd N) (hfl : fl_ok ff fl) (ho : own = lk_own oc) (hx : ∀ x ∈ c0.exceptionTable.toList, False) (hna : α0.length = na) (hret : meth.sig.returnType = ret) (hCs : ∀ Cc ∈ Cs, ct_ok fl Cc)
    {an : List an_T} {ss : List (Nat × Nat)} {hd : Option (List me_T)} {αh : List av_X} (hhd : ∀ ms, hd = some ms → ∀ w ∈ ms, w.1 = 0 ∨ w.2.1 < αh.length)
    (hA : ∀ q ∈ an, ∀ (α : List av_X) (lv : List (Nat × Value)) (st : List Value) (S : fw_S), as_in ad sm fl α0 S0 mod α q.2.2.1 lv st S → (∀ ms, hd = some ms → lx (q.2.2.2.map (me_val α)) (ms.map (me_val αh))) → fw_W p l e0 (fw_rm fr lo mc) s0 m args below meth c0 (vx_MQ below (fw_Q D tc ad kd N sm (fw_Af ad N sz) (ct_post ad sm fl mod cs α0 S0)) (fw_X D tc ad kd N sm (fw_Af ad N sz) (ct_post ad sm fl mod cs α0 S0)) args s0 mc (6 * mc) (fw_Af ad N sz)) D tc ad kd N nL (fw_Af ad N sz) q.1 lv st S q.2.1) :
    ∀ (f : Nat) (first : Bool) (n pc : Nat) (A : as_T), en_run oc nL fr lo mc na ret ff mod cs Cs cc an ss f first hd n pc A = true → ∀ (β : List av_X) (lv : List (Nat × Value)) (st : List Value) (S : fw_S), al_le αh β → as_in ad sm fl α0 S0 mod β A lv st S → fw_W p l e0 (fw_rm fr lo mc) s0 m args below meth c0 (vx_MQ below (fw_Q D tc ad kd N sm (fw_Af ad N sz) (ct_post ad sm fl mod cs α0 S0)) (fw_X D tc ad kd N sm (fw_Af ad N sz) (ct_post ad sm fl mod cs α0 S0)) args s0 mc (6 * mc) (fw_Af ad N sz)) D tc ad kd N nL (fw_Af ad N sz) pc lv st S n
  | 0, _, _, _, _, h => by cases h
  | f + 1, first, n, pc, A, h => by
    intro β lv st S hle H
    rw [en_run] at h
    split at h
    · rename_i q hq
      have hq2 : an.find? (fun q => q.1 == pc) = some q := by
        cases first with
        | true => cases hq
        | false => exact hq
      obtain ⟨h1, h2, h3⟩ := q_arr_in h H hna hle hhd
      have hpc : q.1 = pc := by simpa using List.find?_some hq2
      have := hA q (List.mem_of_find?_eq_some hq2) _ lv st S h2 h3
      rw [hpc] at this
      exact fw_W_mono h1 this
    · split at h
      · rename_i w hw
        obtain ⟨sq, s1, s2⟩ := Option.bind_eq_some_iff.mp hw
        unfold q_spl at s2
        split at s2
        · split at s2
          · rename_i i _ _ a ha
            split at s2
            · rename_i hc
              cases s2
              obtain ⟨⟨ky, my⟩, y1, y2, -⟩ := H.2.1.2 i a ha
              have l1 := y2.2.2.1
              have l2 := y2.2.2.2.1
              dsimp only at l1 l2
              have hb : (((my - a.1.2.1).toNat : Nat) : Int) = my - a.1.2.1 := by omega
              have h3 := List.all_eq_true.mp h (my - a.1.2.1).toNat (List.mem_range.mpr (by dsimp only; omega))
              dsimp only at h3
              rw [hb, show a.1.2.1 + (my - a.1.2.1) = my by omega] at h3
              refine en_run_in C0 hSt hK hfl ho hx hna hret hCs hhd hA f first n pc _ h3 β lv st S hle (as_set H y1 ha ?_)
              have hy := y2.2.1
              have hk0 : ky = 0 := y2.1.trans hc.1
              subst hk0
              exact ⟨rfl, hy, Int.le_refl _, Int.le_refl _, by rw [Int.sub_self]; exact Int.dvd_zero _⟩
            · cases s2
          · cases s2
        · cases s2
      · split at h
        · rename_i i len hdg
          split at h
          · rename_i k L hL
            refine sp_nx C0 hSt hK hfl ho hx hna hret hCs hdg hL H (fun w hw β' lv' st' S' b1 b2 => ?_)
            exact en_run_in C0 hSt hK hfl ho hx hna hret hCs hhd hA f false (n + k) w.1 w.2 (List.all_eq_true.mp h w hw) β' lv' st' S' (hle.trans b1) b2
          · cases h
        · cases h
def lc_of : Nat → Nat → List av_T → List (Nat × Nat)
  | _, _, [] => []
  | k, i, a :: r => (k, i) :: lc_of (if a.1 = 1 then k + 2 else k + 1) (i + 1) r
def ar_w (as : List av_T) : Nat := (as.map (fun a => if a.1 = 1 then 2 else 1)).sum
def en_chk (oc nL : Nat) (ret : Option FieldType) (cc : ByteArray) (ff : Nat → List md_T) (C : ct_T) (Cs : List ct_T) (an : List an_T) (ss : List (Nat × Nat)) (K fuel : Nat) : Bool :=
  decide (ar_w C.2.1 ≤ nL) && en_run oc nL C.2.2.2.2.2.2.1 C.2.2.2.2.2.2.2.1 C.2.2.2.2.2.2.2.2 C.2.1.length ret ff C.2.2.2.2.2.1 C.2.2.2.2.1 Cs cc an ss fuel false none 0 0 (en_of C.2.1, lc_of 0 0 C.2.1, [], [], [], [], C.2.2.1, C.2.2.2.1, none) &&
  an.all (fun q => q.2.2.2.length == K && q.2.2.2.all (fun w => w.1 == 0 || decide (w.2.1 < q.2.2.1.1.length)) && en_run oc nL C.2.2.2.2.2.2.1 C.2.2.2.2.2.2.2.1 C.2.2.2.2.2.2.2.2 C.2.1.length ret ff C.2.2.2.2.2.1 C.2.2.2.2.1 Cs cc an ss fuel true (some q.2.2.2) q.2.1 q.1 q.2.2.1)
theorem ar_cat {a : av_T} {x : av_X} (h : av_in a x) : (av_V ad sm x).category = (if a.1 = 1 then 2 else 1) := by
  rcases av_cat (ad := ad) (sm := sm) x with ⟨c1, c2⟩ | ⟨c1, c2⟩
  · rw [c2, if_pos (h.1.symm.trans c1)]
  · rw [c2, if_neg (fun z => c1 (h.1.trans z))]
theorem lc_in2 : ∀ (as : List av_T) (xs : List av_X) (k i : Nat), as.length = xs.length → (∀ (j : Nat) (a : av_T), as[j]? = some a → ∃ x, xs[j]? = some x ∧ av_in a x) → (∀ (j : Nat) (x : av_X), xs[j]? = some x → α[i + j]? = some x) → ∀ q ∈ lc_of k i as, ∃ x, α[q.2]? = some x ∧ (q.1, av_V ad sm x) ∈ lv_args k (xs.map (av_V ad sm))
  | [], _, _, _, _, _, _, q, hq => by cases hq
  | a :: r, [], _, _, hl, _, _, _, _ => by cases hl
  | a :: r, x :: w, k, i, hl, h1, h2, q, hq => by
    obtain ⟨x', e1, e2⟩ := h1 0 a rfl
    cases e1
    rw [List.map_cons, lv_args]
    rcases List.mem_cons.mp hq with g | g
    · subst g
      exact ⟨x, h2 0 x rfl, List.mem_cons_self⟩
    · obtain ⟨y, y1, y2⟩ := lc_in2 r w (if a.1 = 1 then k + 2 else k + 1) (i + 1) (by simpa using hl) (fun j b hb => h1 (j + 1) b hb) (fun j y hy => by rw [show i + 1 + j = i + (j + 1) by omega]; exact h2 (j + 1) y hy) q g
      refine ⟨y, y1, List.mem_cons_of_mem _ ?_⟩
      rw [ar_cat (ad := ad) (sm := sm) e2]
      by_cases g : a.1 = 1
      · rw [if_pos g] at y2 ⊢
        exact y2
      · rw [if_neg g] at y2 ⊢
        exact y2
theorem sl_len : ∀ (as : List av_T) (xs : List av_X), as.length = xs.length → (∀ (j : Nat) (a : av_T), as[j]? = some a → ∃ x, xs[j]? = some x ∧ av_in a x) → (lg_sl (xs.map (av_V ad sm))).length = ar_w as
  | [], [], _, _ => rfl
  | [], _ :: _, h, _ => by cases h
  | _ :: _, [], h, _ => by cases h
  | a :: r, x :: w, hl, h => by
    obtain ⟨x', e1, e2⟩ := h 0 a rfl
    cases e1
    have ih := sl_len r w (by simpa using hl) (fun j b hb => h (j + 1) b hb)
    have hc := ar_cat (ad := ad) (sm := sm) e2
    unfold lg_sl at ih ⊢
    rw [List.map_cons, List.flatMap_cons, List.length_append, ih]
    unfold ar_w
    rw [List.map_cons, List.sum_cons, hc]
    congr 1
    by_cases g : a.1 = 1
    · rw [if_pos g]; rfl
    · rw [if_neg g]; rfl
/-- a contract out of a check -/
theorem ct_of {ff : Nat → List md_T} {fl : fl_T} (hfl : fl_ok ff fl) {C : ct_T} {Cs : List ct_T} {an : List an_T} {ss : List (Nat × Nat)} {K fuel : Nat} {y : mt_T} (hy : mt_at C.1 = some y) (hCs : ∀ Cc ∈ Cs, ct_ok fl Cc) (h : en_chk y.2.2.2.2.1 y.2.2.1 y.2.2.2.1 y.2.1 ff C Cs an ss K fuel = true) : ct_ok fl C := by
  intro y' hy'
  cases hy.symm.trans hy'
  intro l D tc ad kd N sm xs S hK hxs hrs hfs hgi
  have hmt := mt_at_ok hy
  simp only [mt_b, Bool.and_eq_true, decide_eq_true_eq] at hmt
  obtain ⟨⟨⟨⟨⟨⟨⟨m1, m2⟩, m3⟩, m4⟩, m5⟩, m6⟩, m7⟩, m8⟩ := hmt
  simp only [en_chk, Bool.and_eq_true, decide_eq_true_eq] at h
  obtain ⟨⟨h1, h2⟩, h3⟩ := h
  have hlen : C.2.1.length = xs.length := by rw [hxs.1]; simp [en_of]
  have hax : ∀ (j : Nat) (a : av_T), C.2.1[j]? = some a → ∃ x, xs[j]? = some x ∧ av_in a x := by
    intro j a ha
    obtain ⟨x, x1, x2, -⟩ := hxs.2 j (a, none) (by unfold en_of; rw [List.getElem?_map, ha]; rfl)
    exact ⟨x, x1, x2⟩
  refine fw_ofW m6 (by rw [sl_len C.2.1 xs hlen hax]; exact h1) ?_
  intro sz p e s m args below meth c C0 hSt hret hex _
  have ho : y.1.cls = lk_own y.2.2.2.2.1 := m7
  -- the places noted, by what grows less
  have hAll : ∀ (v : List Nat), v.length = K → ∀ q ∈ an, ∀ (α : List av_X) (lv : List (Nat × Value)) (st : List Value) (S' : fw_S), as_in ad sm fl xs S C.2.2.2.2.2.1 α q.2.2.1 lv st S' → q.2.2.2.map (me_val α) = v →
      fw_W p l e (fw_rm C.2.2.2.2.2.2.1 C.2.2.2.2.2.2.2.1 C.2.2.2.2.2.2.2.2) s m args below meth c (vx_MQ below (fw_Q D tc ad kd N sm (fw_Af ad N sz) (ct_post ad sm fl C.2.2.2.2.2.1 C.2.2.2.2.1 xs S)) (fw_X D tc ad kd N sm (fw_Af ad N sz) (ct_post ad sm fl C.2.2.2.2.2.1 C.2.2.2.2.1 xs S)) args s C.2.2.2.2.2.2.2.2 (6 * C.2.2.2.2.2.2.2.2) (fw_Af ad N sz)) D tc ad kd N y.2.2.1 (fw_Af ad N sz) q.1 lv st S' q.2.1 := by
    refine lx_ind K _ (fun v hv ih q hq α lv st S' H hqv => ?_)
    have h4 := List.all_eq_true.mp h3 q hq
    simp only [Bool.and_eq_true, beq_iff_eq] at h4
    obtain ⟨⟨h4, h5⟩, h6⟩ := h4
    refine en_run_in (hd := some q.2.2.2) (αh := α) (an := an) C0 hSt hK hfl ho hex hlen.symm hret hCs (fun ms hms w hw => ?_) (fun q' hq' α' lv' st' S'' H' hlx => ?_) fuel true q.2.1 q.1 q.2.2.1 h6 α lv st S' al_le.refl H
    · cases hms
      have := List.all_eq_true.mp h5 w hw
      simp only [Bool.or_eq_true, beq_iff_eq, decide_eq_true_eq] at this
      rw [H.2.1.1]
      exact this
    · have h7 := List.all_eq_true.mp h3 q' hq'
      simp only [Bool.and_eq_true, beq_iff_eq] at h7
      exact ih (q'.2.2.2.map (me_val α')) (by rw [List.length_map]; exact h7.1.1) (by rw [← hqv]; exact hlx _ rfl) q' hq' α' lv' st' S'' H' rfl
  refine en_run_in (hd := none) (αh := xs) (an := an) C0 hSt hK hfl ho hex hlen.symm hret hCs (fun ms hms => by cases hms) (fun q hq α lv st S' H _ => ?_) fuel false 0 0 _ h2 xs _ _ S al_le.refl ?_
  · have h7 := List.all_eq_true.mp h3 q hq
    simp only [Bool.and_eq_true, beq_iff_eq] at h7
    exact hAll (q.2.2.2.map (me_val α)) (by rw [List.length_map]; exact h7.1.1) q hq α lv st S' H rfl
  · exact ⟨al_le.refl, hxs, lc_in2 C.2.1 xs 0 0 hlen hax (fun j x hx => by rw [Nat.zero_add]; exact hx), trivial, fun q hq => by (exfalso; exact List.not_mem_nil hq), fun q hq => by (exfalso; exact List.not_mem_nil hq), fun q hq => by (exfalso; exact List.not_mem_nil hq), hrs, hfs, hgi, ⟨fun _ _ _ => ⟨rfl, rfl⟩, rfl⟩, trivial⟩
end ER

