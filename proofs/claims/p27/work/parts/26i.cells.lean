/-! ===== A CONCRETE RUN: steps that store into locals, and on cells ===== -/
theorem cx_cat {ad st : Nat → Nat} {d : Nat} {v : cx_V} (h : v.1 ≠ 1) : (cx_v ad st d v).category = 1 := by
  obtain ⟨z, x⟩ := v
  match z with
  | 0 => rfl
  | 1 => exact absurd rfl h
  | 2 => rfl
  | z + 3 => rfl
/-- fewer locals known -/
theorem fw_W_sub {p : Program} {l : Launch} {e : Env} {R : Room} {s0 : State} {m : MethodId} {args : Array Value} {below : List Frame} {meth : Method} {c0 : Code} {Q : State → Prop} {D : va_G} {tc : Nat → ClassId} {ad : Nat → Nat} {kd : Nat → Nat × Nat} {N nL : Nat} {A : Nat → Prop} {pc n : Nat} {lv lv' : List (Nat × Value)} {s : List Value} {S : fw_S}
    (h : ∀ q, q ∈ lv' → q ∈ lv) (k : fw_W p l e R s0 m args below meth c0 Q D tc ad kd N nL A pc lv' s S n) : fw_W p l e R s0 m args below meth c0 Q D tc ad kd N nL A pc lv s S n :=
  fun H locs ls cells slots h1 h2 hP hD hS hl => k H locs ls cells slots h1 h2 hP hD hS ⟨hl.1, hl.2.1, fun q hq => hl.2.2 q (h q hq)⟩
/-- no longs among the locals -/
def cx_nl (L : cx_L) : Bool := L.all (fun q => decide (q.2.1 ≠ 1))
theorem cx_put_in {ad st : Nat → Nat} {d i : Nat} {L : cx_L} {v : cx_V} (h : cx_nl L = true) : ∀ q, q ∈ cx_lv ad st d (cx_put L i v) → q ∈ fw_st1 (cx_lv ad st d L) i (cx_v ad st d v) := by
  intro q hq
  obtain ⟨w, hw, rfl⟩ := List.mem_map.mp hq
  rcases List.mem_cons.mp hw with rfl | hw
  · exact List.mem_cons_self
  · obtain ⟨h1, h2⟩ := List.mem_filter.mp hw
    have h3 : w.2.1 ≠ 1 := by simpa using List.all_eq_true.mp h w h1
    refine List.mem_cons_of_mem _ (List.mem_filter.mpr ⟨List.mem_map.mpr ⟨w, h1, rfl⟩, ?_⟩)
    show (!(w.1 == i) && !(w.1 + 1 == i && (cx_v ad st d w.2).category == 2)) = true
    rw [cx_cat h3, h2]
    simp
/-- one step: locals stored, cells read and written -/
def cx_s2 (oc nL lo hi pc len : Nat) (i : Instr) (c : cx_C) : Option (Nat × cx_C) := match i, c with
  | .istore_n k, (L, v :: s, I, G) => if len = 1 ∧ v.1 = 0 ∧ (k : Nat) < nL ∧ cx_nl L = true then some (pc + 1, cx_put L k v, s, I, G) else none
  | .iinc j x, (L, s, I, G) => (match cx_ld L j with
    | some v => if len = 3 ∧ v.1 = 0 ∧ j < nL ∧ cx_nl L = true then some (pc + 3, cx_put L j (0, (Int32.ofInt v.2 + Int32.ofInt x).toInt), s, I, G) else none
    | none => none)
  | .getfield idx, (L, v :: s, I, G) => (match lkf_at oc idx with
    | some q => if len = 3 ∧ v.1 = 2 ∧ lo ≤ v.2.toNat ∧ v.2.toNat < hi ∧ wd_kd v.2.toNat = (q.2.1 + 6, cl_n q.2.1) then (match fw_fk (fw_ty q.2.1 q.2.2.1) with
      | 0 => some (pc + 3, L, (0, (Int32.ofInt (cx_rd I v.2.toNat q.2.2.1)).toInt) :: s, I, G)
      | 2 => (match wd_rt.find? (fun r => decide (r.1 = v.2.toNat) && (decide (r.2.1 ≤ q.2.2.1) && decide (q.2.2.1 ≤ r.2.2.1))) with
        | some r => some (pc + 3, L, (2, ((r.2.2.2 + (q.2.2.1 - r.2.1) : Nat) : Int)) :: s, I, G)
        | none => none)
      | _ => none) else none
    | none => none)
  | .iastore, (L, x :: j :: v :: s, I, G) => if len = 1 ∧ x.1 = 0 ∧ j.1 = 0 ∧ v.1 = 2 ∧ lo ≤ v.2.toNat ∧ v.2.toNat < hi ∧ (wd_kd v.2.toNat).1 = 0 ∧ 0 ≤ j.2 ∧ j.2 < (wd_kd v.2.toNat).2 ∧ j.2 < 100000 then some (pc + 1, L, s, (v.2.toNat, j.2.toNat, x.2) :: I, G) else none
  | _, _ => none
section CY
variable {p : Program} {l : Launch} {e : Env} {R : Room} {s0 : State} {m : MethodId} {args : Array Value} {below : List Frame} {meth : Method} {c0 : Code} {Q : State → Prop}
variable {D : va_G} {tc : Nat → ClassId} {ad : Nat → Nat} {kd : Nat → Nat × Nat} {N nL : Nat} {A : Nat → Prop} {own : String} {cc : ByteArray} {st : Nat → Nat}
variable {pc n d len lo hi oc : Nat} {S : fw_S}
theorem cx_v22 {v : cx_V} (h : v.1 = 2) : cx_v ad st d v = .ref (ad (d + v.2.toNat)) := by
  unfold cx_v
  rw [h]
  rfl
theorem cx_ix {j : Int} (h : 0 ≤ j) (h2 : j < 100000) : (Int32.ofInt j).toNatClampNeg = j.toNat ∧ (Int32.ofInt j).toInt = j := by
  have e1 : (Int32.ofInt j).toInt = j := by
    rw [Int32.toInt_ofInt]
    exact av_wrap (by omega) (by omega)
  exact ⟨by show (Int32.ofInt j).toInt.toNat = _; rw [e1], e1⟩
theorem cx_vin {j : Int} {K : Nat} (h : 0 ≤ j) (h2 : j < 100000) (h3 : j < K) : vp_in (Int32.ofInt j) K := by
  obtain ⟨e1, e2⟩ := cx_ix h h2
  rintro (q | q)
  · have := Int32.lt_iff_toInt_lt.mp q
    rw [e2, show (0 : Int32).toInt = 0 from rfl] at this
    omega
  · rw [e1] at q
    omega
theorem cx_s2_in {i : Instr} {c : cx_C} {w : Nat × cx_C} (C0 : fw_C p s0 m args meth c0 D tc A own cc nL) (ho : own = lk_own oc) (hok : cx_ok kd N S d lo hi) (hdg : decode cc pc = .ok (i, len)) (h : cx_s2 oc nL lo hi pc len i c = some w)
    (k : fw_W p l e R s0 m args below meth c0 Q D tc ad kd N nL A w.1 (cx_lv ad st d w.2.1) (cx_sv ad st d w.2.2.1) (cx_S w.2.2.2.1 w.2.2.2.2 d S) n) : fw_W p l e R s0 m args below meth c0 Q D tc ad kd N nL A pc (cx_lv ad st d c.1) (cx_sv ad st d c.2.1) (cx_S c.2.2.1 c.2.2.2 d S) n := by
  unfold cx_s2 at h
  split at h
  · rename_i k0 L v s I G
    split at h
    · rename_i g
      cases h
      rw [g.1] at hdg
      show fw_W _ _ _ _ _ _ _ _ _ _ _ _ _ _ _ _ _ _ _ _ (cx_v ad st d v :: cx_sv ad st d s) _ _
      rw [cx_v0 g.2.1]
      refine fw_istore_n C0 rfl g.2.2.1 hdg (fw_W_sub ?_ k)
      rw [← cx_v0 (ad := ad) (st := st) (d := d) g.2.1]
      exact cx_put_in g.2.2.2
    · cases h
  · rename_i j x L s I G
    split at h
    · rename_i v hv
      split at h
      · rename_i g
        cases h
        rw [g.1] at hdg
        have hm := cx_ld_in (ad := ad) (st := st) (d := d) hv
        rw [cx_v0 g.2.1] at hm
        refine fw_iinc C0 hm g.2.2.1 hdg (fw_W_sub ?_ k)
        rw [← cx_vi (ad := ad) (st := st) (d := d)]
        exact cx_put_in g.2.2.2
      · cases h
    · cases h
  · rename_i idx L v s I G
    split at h
    · rename_i q hq
      split at h
      · rename_i g
        obtain ⟨g1, g2, g3, g4, g5⟩ := g
        rw [g1] at hdg
        obtain ⟨o1, o2, o3, o4, o5⟩ := hok
        show fw_W _ _ _ _ _ _ _ _ _ _ _ _ _ _ _ _ _ _ _ _ (cx_v ad st d v :: cx_sv ad st d s) _ _
        rw [cx_v22 g2]
        split at h
        · rename_i hf
          cases h
          refine fw_geti C0 ho hq (by omega) ((o4 _ g3 g4).1.trans g5) hf hdg ?_
          rw [cx_rd_in ((o4 _ g3 g4).2.1 _)]
          replace k : fw_W p l e R s0 m args below meth c0 Q D tc ad kd N nL A (pc + 3) (cx_lv ad st d L) (cx_v ad st d (0, (Int32.ofInt (cx_rd I v.2.toNat q.2.2.1)).toInt) :: cx_sv ad st d s) (cx_S I G d S) n := k
          rw [cx_vi] at k
          exact k
        · rename_i hf
          split at h
          · rename_i r hr
            cases h
            have hr1 := List.mem_of_find?_eq_some hr
            have hr2 := List.find?_some hr
            simp only [Bool.and_eq_true, decide_eq_true_eq] at hr2
            have e1 := o5 r hr1 (by omega) (by omega) q.2.2.1 hr2.2.1 hr2.2.2
            rw [hr2.1] at e1
            refine fw_getr C0 ho hq (by omega) ((o4 _ g3 g4).1.trans g5) hf (v := d + (r.2.2.2 + (q.2.2.1 - r.2.1))) e1 hdg ?_
            replace k : fw_W p l e R s0 m args below meth c0 Q D tc ad kd N nL A (pc + 3) (cx_lv ad st d L) (.ref (ad (d + (((r.2.2.2 + (q.2.2.1 - r.2.1) : Nat) : Int)).toNat)) :: cx_sv ad st d s) (cx_S I G d S) n := k
            rw [Int.toNat_natCast] at k
            exact k
          · cases h
        · cases h
      · cases h
    · cases h
  · rename_i L x j v s I G
    split at h
    · rename_i g
      obtain ⟨g1, g2, g3, g4, g5, g6, g7, g8, g9, g10⟩ := g
      cases h
      rw [g1] at hdg
      obtain ⟨o1, o2, o3, o4, o5⟩ := hok
      show fw_W _ _ _ _ _ _ _ _ _ _ _ _ _ _ _ _ _ _ _ _ (cx_v ad st d x :: cx_v ad st d j :: cx_v ad st d v :: cx_sv ad st d s) _ _
      rw [cx_v0 g2, cx_v0 g3, cx_v22 g4]
      refine fw_iastore (n0 := (wd_kd v.2.toNat).2) C0 (by omega) ((o4 _ g5 g6).1.trans (Prod.ext g7 rfl)) (cx_vin g8 g10 g9) hdg ?_
      rw [(cx_ix g8 g10).1, cx_wr]
      exact k
    · cases h
  · cases h
end CY
