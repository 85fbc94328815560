/-! ===== CONTRACTS: (method, arguments, regions wanted, flags wanted, cases, what may change, frames, locals, exceptions) =====
a case: (kind: 0 nothing, 1 a number or reference, 2 + i exception i; the result; the arguments then; regions then; flags then) -/
abbrev cs_T : Type := Nat × av_T × List av_T × List rg_T × (List Nat × List (Nat × Nat × Nat))
abbrev ct_T : Type := Nat × List av_T × List rg_T × List Nat × List cs_T × List md_T × Nat × Nat × Nat
def ex_nm : Nat → String := fun i => match i with
  | 0 => "java/lang/IllegalArgumentException"
  | 1 => "java/lang/IllegalStateException"
  | _ => "java/lang/IndexOutOfBoundsException"
def en_of (as : List av_T) : List en_E := as.map (fun a => (a, none))
def ct_out (ad sm : Nat → Nat) (k : Nat) (a : av_T) (oc : fw_O) : Prop := match k with
  | 0 => oc = .inl none
  | 1 => ∃ x : av_X, oc = .inl (some (av_V ad sm x)) ∧ av_in a x
  | i + 2 => oc = .inr (ex_nm i)
/-- what a result is to the arguments, at the contents before -/
def rl_out (fl : fl_T) (xs : List av_X) (S : fw_S) (oc : fw_O) (rl : List (Nat × Nat × Nat)) : Prop := ∀ w ∈ rl, ∀ v : Int32, oc = .inl (some (.int v)) → ∃ x y : av_X, xs[w.2.1]? = some x ∧ xs[w.2.2]? = some y ∧ fl w.1 v.toInt x.2 y.2 S
def ct_post (ad sm : Nat → Nat) (fl : fl_T) (mod : List md_T) (cs : List cs_T) (xs : List av_X) (S : fw_S) (oc : fw_O) (S' : fw_S) : Prop :=
  ∃ q ∈ cs, ct_out ad sm q.1 q.2.1 oc ∧ en_in xs (en_of q.2.2.1) ∧ (∀ r ∈ q.2.2.2.1, rg_in S' r) ∧ (∀ g ∈ q.2.2.2.2.1, fl g 0 0 0 S') ∧ rl_out fl xs S oc q.2.2.2.2.2 ∧ gi_in S' ∧ fr_in mod S S'
/-- the cells are as they were made, and the launch keeps no stack traces -/
def kd_okl (l : Launch) (kd : Nat → Nat × Nat) (N : Nat) : Prop := kd_ok kd N ∧ l.stackTraces = false
def ct_ok (fl : fl_T) (C : ct_T) : Prop := ∀ (y : mt_T), mt_at C.1 = some y → ∀ (l : Launch) (D : va_G) (tc : Nat → ClassId) (ad : Nat → Nat) (kd : Nat → Nat × Nat) (N : Nat) (sm : Nat → Nat) (xs : List av_X) (S : fw_S), kd_okl l kd N → en_in xs (en_of C.2.1) → (∀ r ∈ C.2.2.1, rg_in S r) → (∀ g ∈ C.2.2.2.1, fl g 0 0 0 S) → gi_in S →
  fw_Met l y.1 y.2.1 y.2.2.1 y.2.2.2.1 C.2.2.2.2.2.2.1 C.2.2.2.2.2.2.2.1 C.2.2.2.2.2.2.2.2 D tc ad kd N sm (xs.map (av_V ad sm)) S (ct_post ad sm fl C.2.2.2.2.2.1 C.2.2.2.2.1 xs S)
/-! what a state knows -/
def q_cn (A : as_T) (i k : Nat) (m : Int) : Bool := match A.1[i]? with
  | some a => a.1.1 == k && decide (a.1.2.1 = m) && decide (a.1.2.2.1 = m)
  | none => false
def q_rg (A : as_T) (q : rg_T) : Bool := (A.2.2.2.2.2.2.1 ++ wd_gt).any (fun r => rg_has r q.1.1 q.1.2 q.2.1 && av_le r.2.2 q.2.2) ||
  (q.1.1 == q.1.2 && q.2.1.1 == q.2.1.2.1 && q.2.2.1 == 0 && A.2.2.2.1.any (fun h => q_cn A h.1 2 q.1.1 && q_cn A h.2.1 0 q.2.1.1 && (match A.1[h.2.2]? with | some x => av_le x.1 q.2.2 | none => false)))
def q_ar (A : as_T) (as : List av_T) : Bool := decide (as.length ≤ A.1.length) && (A.1.zip as).all (fun q => av_le q.1.1 q.2)
section CT
variable {p : Program} {l : Launch} {e0 : Env} {R : Room} {s0 : State} {m : MethodId} {args : Array Value} {below : List Frame} {meth : Method} {c0 : Code} {Q : State → Prop}
variable {D : va_G} {tc : Nat → ClassId} {ad : Nat → Nat} {kd : Nat → Nat × Nat} {N nL : Nat} {A0 : Nat → Prop} {own : String} {cc : ByteArray} {sm : Nat → Nat}
variable {fl : fl_T} {ff : Nat → List md_T} {α0 : List av_X} {S0 : fw_S} {mod : List md_T} {α : List av_X} {A A' : as_T} {lv : List (Nat × Value)} {st : List Value} {S : fw_S} {pc n : Nat}

theorem q_cn_in {i k : Nat} {m : Int} {x : av_X} (h : q_cn A i k m = true) (he : en_in α A.1) (hx : α[i]? = some x) : x = (k, m) := by
  unfold q_cn at h
  obtain ⟨q, h1, h2, -⟩ := en_some he hx
  rw [h1] at h
  simp only [Bool.and_eq_true, beq_iff_eq, decide_eq_true_eq] at h
  obtain ⟨⟨g1, g2⟩, g3⟩ := h
  obtain ⟨x1, x2⟩ := x
  obtain ⟨e1, -, e2, e3, -⟩ := h2
  dsimp only at e1 e2 e3
  have : x2 = m := by omega
  rw [e1, g1, this]
theorem ct_X_int {k j : Nat} {x : av_X} (h : ct_X S k j = some x) (h0 : x.1 = 0) : x = (0, (S.1 k j).toInt) := by
  unfold ct_X at h
  split at h
  · cases h; rfl
  · cases h; cases h0
  · cases h; rfl
  · obtain ⟨r, -, rfl⟩ := Option.map_eq_some_iff.mp h; cases h0
  · obtain ⟨r, -, rfl⟩ := Option.map_eq_some_iff.mp h; cases h0
  · obtain ⟨r, -, rfl⟩ := Option.map_eq_some_iff.mp h; cases h0
  · split at h
    · cases h; rfl
    · cases h; cases h0
    · obtain ⟨r, -, rfl⟩ := Option.map_eq_some_iff.mp h; cases h0
theorem q_rg_in {q : rg_T} (h : q_rg A q = true) (H : as_in ad sm fl α0 S0 mod α A lv st S) : rg_in S q := by
  rw [q_rg, Bool.or_eq_true] at h
  rcases h with h | h
  · obtain ⟨r, r1, r2⟩ := List.any_eq_true.mp h
    simp only [rg_has, Bool.and_eq_true, decide_eq_true_eq] at r2
    have hr : rg_in S r := by
      rcases List.mem_append.mp r1 with g | g
      · exact H.2.2.2.2.2.2.2.1 r g
      · exact H.2.2.2.2.2.2.2.2.2.1.1 r g
    intro k j k1 k2 k3
    exact av_le_in r2.2 (hr k j (Nat.le_trans r2.1.1.1 k1) (Nat.le_trans k2 r2.1.1.2) (pg_le_in r2.1.2 k3))
  · simp only [Bool.and_eq_true, beq_iff_eq] at h
    obtain ⟨⟨⟨e1, e2⟩, e3⟩, h⟩ := h
    obtain ⟨w, w1, w2⟩ := List.any_eq_true.mp h
    simp only [Bool.and_eq_true] at w2
    obtain ⟨⟨w2, w3⟩, w4⟩ := w2
    obtain ⟨k', j', x, g1, g2, g3, g4, g5, g6⟩ := H.2.2.2.2.1 w w1
    have c1 := q_cn_in w2 H.2.1 g1
    have c2 := q_cn_in w3 H.2.1 g2
    obtain ⟨a, a1, a2, -⟩ := en_some H.2.1 g3
    rw [a1] at w4
    have hx := av_le_in w4 a2
    have hx0 : x.1 = 0 := hx.1.trans e3
    intro k j k1 k2 k3
    have hk : k = q.1.1 := by omega
    have hj : j = q.2.1.1 := by have := k3.1; have := k3.2.1; omega
    have d1 : k'.toNat = k := by have := congrArg Prod.snd c1; dsimp only at this; omega
    have d2 : j'.toNat = j := by have := congrArg Prod.snd c2; dsimp only at this; omega
    rw [d1, d2] at g6
    rw [← ct_X_int g6 hx0]
    exact hx
theorem q_ar_in {xs : List av_X} {as : List av_T} (h : q_ar A as = true) (he : en_in α A.1) (hle : al_le xs α) (hl : as.length = xs.length) : en_in xs (en_of as) := by
  rw [q_ar, Bool.and_eq_true, decide_eq_true_eq] at h
  refine ⟨by simp [en_of, hl], fun i q hq => ?_⟩
  unfold en_of at hq
  rw [List.getElem?_map] at hq
  cases ha : as[i]? with
  | none => rw [ha] at hq; cases hq
  | some a =>
    rw [ha] at hq
    cases hq
    have hi : i < as.length := (List.getElem?_eq_some_iff.mp ha).1
    have hx : xs[i]? = some xs[i] := List.getElem?_eq_getElem (by omega)
    obtain ⟨b, b1, b2, -⟩ := en_some he (hle _ _ hx)
    have hz : (A.1.zip as)[i]? = some (b, a) := by
      rw [List.getElem?_zip_eq_some]
      exact ⟨b1, ha⟩
    exact ⟨_, hx, av_le_in (List.all_eq_true.mp h.2 _ (List.mem_of_getElem? hz)) b2, fun _ _ z => by cases z⟩
end CT
/-! ends -/
def q_cs (A : as_T) (v : Option Nat) (k na : Nat) (c : cs_T) : Bool := c.1 == k && c.2.2.1.length == na && q_ar A c.2.2.1 && c.2.2.2.1.all (q_rg A) && c.2.2.2.2.1.all (fun g => A.2.2.2.2.2.2.2.1.contains g) && c.2.2.2.2.2.isEmpty &&
  (match v with
  | some i => (match A.1[i]? with | some a => av_le a.1 c.2.1 | none => false)
  | none => true)
section CE
variable {p : Program} {l : Launch} {e0 : Env} {R : Room} {s0 : State} {m : MethodId} {args : Array Value} {below : List Frame} {meth : Method} {c0 : Code} {Q : State → Prop}
variable {D : va_G} {tc : Nat → ClassId} {ad : Nat → Nat} {kd : Nat → Nat × Nat} {N nL : Nat} {A0 : Nat → Prop} {own : String} {cc : ByteArray} {sm : Nat → Nat}
variable {fl : fl_T} {ff : Nat → List md_T} {α0 : List av_X} {S0 : fw_S} {mod : List md_T} {α : List av_X} {A A' : as_T} {lv : List (Nat × Value)} {st : List Value} {S : fw_S} {pc n : Nat}

theorem q_cs_in {v : Option Nat} {k na : Nat} {cs : List cs_T} (h : cs.any (q_cs A v k na) = true) (H : as_in ad sm fl α0 S0 mod α A lv st S) (hn : α0.length = na) {oc : fw_O}
    (ho : ∀ a : av_T, (∀ i, v = some i → ∀ x, α[i]? = some x → av_in a x) → ct_out ad sm k a oc) (hv : ∀ i, v = some i → ∃ x, α[i]? = some x) : ct_post ad sm fl mod cs α0 S0 oc S := by
  obtain ⟨c, c1, c2⟩ := List.any_eq_true.mp h
  simp only [q_cs, Bool.and_eq_true, beq_iff_eq] at c2
  obtain ⟨⟨⟨⟨⟨⟨e1, e2⟩, e3⟩, e4⟩, e5⟩, e7⟩, e6⟩ := c2
  refine ⟨c, c1, ?_, q_ar_in e3 H.2.1 H.1 (e2.trans hn.symm), fun r hr => q_rg_in (List.all_eq_true.mp e4 r hr) H, fun g hg => ?_, (by rw [List.isEmpty_iff.mp e7]; exact fun w hw => nomatch hw), H.2.2.2.2.2.2.2.2.2.1, H.2.2.2.2.2.2.2.2.2.2.1⟩
  · rw [e1]
    refine ho _ (fun i hi x hx => ?_)
    subst hi
    dsimp only at e6
    obtain ⟨a, a1, a2, -⟩ := en_some H.2.1 hx
    rw [a1] at e6
    exact av_le_in e6 a2
  · have := List.all_eq_true.mp e5 g hg
    exact H.2.2.2.2.2.2.2.2.1 g (by simpa using this)
def q_eI (ret : Option FieldType) (na : Nat) (cs : List cs_T) (A : as_T) : Bool := match A.2.2.1 with
    | [v] => (match q_av A v 0 with
      | some a => (decide (ret = some .int) || (decide (ret = some .boolean) && decide (0 ≤ a.2.1) && decide (a.2.2.1 ≤ 1))) && cs.any (q_cs A (some v) 1 na)
      | none => false)
    | _ => false
def q_eL (ret : Option FieldType) (na : Nat) (cs : List cs_T) (A : as_T) : Bool := match A.2.2.1 with
    | [v] => (match q_av A v 1 with
      | some _ => decide (ret = some .long) && cs.any (q_cs A (some v) 1 na)
      | none => false)
    | _ => false
def q_eA (ret : Option FieldType) (na : Nat) (cs : List cs_T) (A : as_T) : Bool := match A.2.2.1 with
    | [v] => (match q_av A v 2 with
      | some _ => (match ret with | some (.object _) => true | some (.array _) => true | _ => false) && cs.any (q_cs A (some v) 1 na)
      | none => false)
    | _ => false
def q_eV (ret : Option FieldType) (na : Nat) (cs : List cs_T) (A : as_T) : Bool := match A.2.2.1 with
    | [] => decide (ret = none) && cs.any (q_cs A none 0 na)
    | _ => false
theorem sp_eI {ret : Option FieldType} {cs : List cs_T} {na mc sz : Nat} {Post : fw_O → fw_S → Prop} (C0 : fw_C p s0 m args meth c0 D tc (fw_Af ad N sz) own cc nL) (hSt : fw_St sm (fw_Af ad N sz) s0 s0.heap) (hr : meth.sig.returnType = ret) (hn : n ≤ mc) (hna : α0.length = na) (hdg : decode cc pc = .ok (.ireturn, 1))
    (h : q_eI ret na cs A = true) (H : as_in ad sm fl α0 S0 mod α A lv st S) (hP : ∀ oc S', ct_post ad sm fl mod cs α0 S0 oc S' → Post oc S') :
    fw_W p l e0 R s0 m args below meth c0 (vx_MQ below (fw_Q D tc ad kd N sm (fw_Af ad N sz) Post) (fw_X D tc ad kd N sm (fw_Af ad N sz) Post) args s0 mc (6 * mc) (fw_Af ad N sz)) D tc ad kd N nL (fw_Af ad N sz) pc lv st S n := by
  unfold q_eI at h
  split at h
  · rename_i v hs
    split at h
    · rename_i a ha
      rw [Bool.and_eq_true] at h
      obtain ⟨d, a1, a2⟩ := q_av_some ha
      obtain ⟨x, st', rfl, x1, x2, H2⟩ := as_popi (as_q H hs) a1 a2
      have hp : ct_post ad sm fl mod cs α0 S0 (.inl (some (.int x))) S := q_cs_in h.2 H hna
        (fun b hb => ⟨(0, x.toInt), by show _ = Sum.inl (some (Value.int (Int32.ofInt x.toInt))); rw [Int32.ofInt_toInt], hb v rfl _ x1⟩) (fun i hi => by cases hi; exact ⟨_, x1⟩)
      have hst : st' = [] := by
        have := H2.2.2.2.1
        match st', this with
        | [], _ => rfl
        | _ :: _, z => exact z.elim
      subst hst
      rw [Bool.or_eq_true] at h
      rcases h.1 with g | g
      · exact fw_iret C0 hSt (hr.trans (of_decide_eq_true g)) hn (hP _ _ hp) hdg
      · simp only [Bool.and_eq_true, decide_eq_true_eq] at g
        have l1 := x2.2.2.1
        have l2 := x2.2.2.2.1
        dsimp only at l1 l2
        refine fw_zret C0 hSt (hr.trans g.1.1) ?_ hn (hP _ _ hp) hdg
        have : x.toInt = 0 ∨ x.toInt = 1 := by omega
        rcases this with e | e
        · have : x = 0 := Int32.toInt_inj.mp (e.trans rfl)
          subst this; decide
        · have : x = 1 := Int32.toInt_inj.mp (e.trans rfl)
          subst this; decide
    · cases h
  · cases h
theorem sp_eL {ret : Option FieldType} {cs : List cs_T} {na mc sz : Nat} {Post : fw_O → fw_S → Prop} (C0 : fw_C p s0 m args meth c0 D tc (fw_Af ad N sz) own cc nL) (hSt : fw_St sm (fw_Af ad N sz) s0 s0.heap) (hr : meth.sig.returnType = ret) (hn : n ≤ mc) (hna : α0.length = na) (hdg : decode cc pc = .ok (.lreturn, 1))
    (h : q_eL ret na cs A = true) (H : as_in ad sm fl α0 S0 mod α A lv st S) (hP : ∀ oc S', ct_post ad sm fl mod cs α0 S0 oc S' → Post oc S') :
    fw_W p l e0 R s0 m args below meth c0 (vx_MQ below (fw_Q D tc ad kd N sm (fw_Af ad N sz) Post) (fw_X D tc ad kd N sm (fw_Af ad N sz) Post) args s0 mc (6 * mc) (fw_Af ad N sz)) D tc ad kd N nL (fw_Af ad N sz) pc lv st S n := by
  unfold q_eL at h
  split at h
  · rename_i v hs
    split at h
    · rename_i a ha
      rw [Bool.and_eq_true, decide_eq_true_eq] at h
      obtain ⟨d, a1, a2⟩ := q_av_some ha
      obtain ⟨x, st', rfl, x1, x2, H2⟩ := as_popl (as_q H hs) a1 a2
      have hp : ct_post ad sm fl mod cs α0 S0 (.inl (some (.long x))) S := q_cs_in h.2 H hna
        (fun b hb => ⟨(1, x.toInt), by show _ = Sum.inl (some (Value.long (Int64.ofInt x.toInt))); rw [Int64.ofInt_toInt], hb v rfl _ x1⟩) (fun i hi => by cases hi; exact ⟨_, x1⟩)
      have hst : st' = [] := by
        have := H2.2.2.2.1
        match st', this with
        | [], _ => rfl
        | _ :: _, z => exact z.elim
      subst hst
      exact fw_lret C0 hSt (hr.trans h.1) hn (hP _ _ hp) hdg
    · cases h
  · cases h
theorem sp_eA {ret : Option FieldType} {cs : List cs_T} {na mc sz : Nat} {Post : fw_O → fw_S → Prop} (C0 : fw_C p s0 m args meth c0 D tc (fw_Af ad N sz) own cc nL) (hSt : fw_St sm (fw_Af ad N sz) s0 s0.heap) (hr : meth.sig.returnType = ret) (hn : n ≤ mc) (hna : α0.length = na) (hdg : decode cc pc = .ok (.areturn, 1))
    (h : q_eA ret na cs A = true) (H : as_in ad sm fl α0 S0 mod α A lv st S) (hP : ∀ oc S', ct_post ad sm fl mod cs α0 S0 oc S' → Post oc S') :
    fw_W p l e0 R s0 m args below meth c0 (vx_MQ below (fw_Q D tc ad kd N sm (fw_Af ad N sz) Post) (fw_X D tc ad kd N sm (fw_Af ad N sz) Post) args s0 mc (6 * mc) (fw_Af ad N sz)) D tc ad kd N nL (fw_Af ad N sz) pc lv st S n := by
  unfold q_eA at h
  split at h
  · rename_i v hs
    split at h
    · rename_i a ha
      rw [Bool.and_eq_true] at h
      obtain ⟨d, a1, a2⟩ := q_av_some ha
      obtain ⟨x, st', rfl, x1, x2, H2⟩ := as_popr (as_q H hs) a1 a2
      have hp : ct_post ad sm fl mod cs α0 S0 (.inl (some (.ref (ad x)))) S := q_cs_in h.2 H hna
        (fun b hb => ⟨(2, (x : Int)), by show _ = Sum.inl (some (Value.ref (ad ((x : Int)).toNat))); rw [show ((x : Int)).toNat = x by omega], hb v rfl _ x1⟩) (fun i hi => by cases hi; exact ⟨_, x1⟩)
      have hst : st' = [] := by
        have := H2.2.2.2.1
        match st', this with
        | [], _ => rfl
        | _ :: _, z => exact z.elim
      subst hst
      have h1 := h.1
      split at h1
      · exact fw_aret C0 hSt hr (Or.inl ⟨_, rfl⟩) hn (hP _ _ hp) hdg
      · exact fw_aret C0 hSt hr (Or.inr ⟨_, rfl⟩) hn (hP _ _ hp) hdg
      · cases h1
    · cases h
  · cases h
theorem sp_eV {ret : Option FieldType} {cs : List cs_T} {na mc sz : Nat} {Post : fw_O → fw_S → Prop} (C0 : fw_C p s0 m args meth c0 D tc (fw_Af ad N sz) own cc nL) (hSt : fw_St sm (fw_Af ad N sz) s0 s0.heap) (hr : meth.sig.returnType = ret) (hn : n ≤ mc) (hna : α0.length = na) (hdg : decode cc pc = .ok (.return_, 1))
    (h : q_eV ret na cs A = true) (H : as_in ad sm fl α0 S0 mod α A lv st S) (hP : ∀ oc S', ct_post ad sm fl mod cs α0 S0 oc S' → Post oc S') :
    fw_W p l e0 R s0 m args below meth c0 (vx_MQ below (fw_Q D tc ad kd N sm (fw_Af ad N sz) Post) (fw_X D tc ad kd N sm (fw_Af ad N sz) Post) args s0 mc (6 * mc) (fw_Af ad N sz)) D tc ad kd N nL (fw_Af ad N sz) pc lv st S n := by
  unfold q_eV at h
  split at h
  · rename_i hs
    rw [Bool.and_eq_true, decide_eq_true_eq] at h
    have hp : ct_post ad sm fl mod cs α0 S0 (.inl none) S := q_cs_in h.2 H hna (fun b _ => rfl) (fun i hi => by cases hi)
    have hst : st = [] := by
      have := H.2.2.2.1
      rw [hs] at this
      match st, this with
      | [], _ => rfl
      | _ :: _, z => exact z.elim
    subst hst
    exact fw_vret C0 hSt (hr.trans h.1) hn (hP _ _ hp) hdg
  · cases h
end CE

