/-! ===== A CONCRETE RUN: more steps on cells ===== -/
def cx_s4 (oc nL lo hi pc len : Nat) (i : Instr) (c : cx_C) : Option (Nat × cx_C) := match i, c with
  | .aaload, (L, j :: v :: s, I, G) => if len = 1 ∧ j.1 = 0 ∧ v.1 = 2 ∧ lo ≤ v.2.toNat ∧ v.2.toNat < hi ∧ ((wd_kd v.2.toNat).1 = 3 ∨ (wd_kd v.2.toNat).1 = 4) ∧ 0 ≤ j.2 ∧ j.2 < (wd_kd v.2.toNat).2 ∧ j.2 < 100000 then (match wd_rt.find? (fun r => decide (r.1 = v.2.toNat) && (decide (r.2.1 ≤ j.2.toNat) && decide (j.2.toNat ≤ r.2.2.1))) with
    | some r => some (pc + 1, L, (2, ((r.2.2.2 + (j.2.toNat - r.2.1) : Nat) : Int)) :: s, I, G)
    | none => none) else none
  | .iaload, (L, j :: v :: s, I, G) => if len = 1 ∧ j.1 = 0 ∧ 0 ≤ j.2 ∧ j.2 < 100000 then (match v.1 with
    | 2 => if lo ≤ v.2.toNat ∧ v.2.toNat < hi ∧ (wd_kd v.2.toNat).1 = 0 ∧ j.2 < (wd_kd v.2.toNat).2 then some (pc + 1, L, (0, (Int32.ofInt (cx_rd I v.2.toNat j.2.toNat)).toInt) :: s, I, G) else none
    | 3 => (match fw_sn[v.2.toNat]? with
      | some q => if j.2 < q.2.2.length then some (pc + 1, L, (0, (Int32.ofInt (q.2.2.getD j.2.toNat 0)).toInt) :: s, I, G) else none
      | none => none)
    | _ => none) else none
  | .arraylength, (L, v :: s, I, G) => if len = 1 ∧ v.1 = 3 then (match fw_sn[v.2.toNat]? with
    | some q => some (pc + 1, L, (0, (Int32.ofNat q.2.2.length).toInt) :: s, I, G)
    | none => none) else none
  | .putfield idx, (L, x :: v :: s, I, G) => (match lkf_at oc idx with
    | some q => if len = 3 ∧ x.1 = 0 ∧ v.1 = 2 ∧ lo ≤ v.2.toNat ∧ v.2.toNat < hi ∧ wd_kd v.2.toNat = (q.2.1 + 6, cl_n q.2.1) ∧ q_fin oc idx = true ∧ fw_ty q.2.1 q.2.2.1 = .int then some (pc + 3, L, s, (v.2.toNat, q.2.2.1, x.2) :: I, G) else none
    | none => none)
  | .lastore, (L, x :: j :: v :: s, I, G) => if len = 1 ∧ x.1 = 1 ∧ j.1 = 0 ∧ v.1 = 2 ∧ lo ≤ v.2.toNat ∧ v.2.toNat < hi ∧ (wd_kd v.2.toNat).1 = 1 ∧ 0 ≤ j.2 ∧ j.2 < (wd_kd v.2.toNat).2 ∧ j.2 < 100000 then some (pc + 1, L, s, I, (v.2.toNat, j.2.toNat, x.2) :: G) else none
  | .astore_n k, (L, v :: s, I, G) => if len = 1 ∧ 2 ≤ v.1 ∧ (k : Nat) < nL ∧ cx_nl L = true then some (pc + 1, cx_put L k v, s, I, G) else none
  | _, _ => none
section C4
variable {p : Program} {l : Launch} {e : Env} {R : Room} {s0 : State} {m : MethodId} {args : Array Value} {below : List Frame} {meth : Method} {c0 : Code} {Q : State → Prop}
variable {D : va_G} {tc : Nat → ClassId} {ad : Nat → Nat} {kd : Nat → Nat × Nat} {N nL : Nat} {A : Nat → Prop} {own : String} {cc : ByteArray} {st : Nat → Nat}
variable {pc n d len lo hi oc : Nat} {S : fw_S}
theorem cx_v3 {v : cx_V} (h : v.1 = 3) : cx_v ad st d v = .ref (st v.2.toNat) := by
  unfold cx_v
  rw [h]
  rfl
theorem cx_v1 {v : cx_V} (h : v.1 = 1) : cx_v ad st d v = .long (Int64.ofInt v.2) := by
  unfold cx_v
  rw [h]
  rfl
theorem cx_s4_in {i : Instr} {c : cx_C} {w : Nat × cx_C} (C0 : fw_C p s0 m args meth c0 D tc A own cc nL) (hSt : fw_St st A s0 s0.heap) (ho : own = lk_own oc) (hok : cx_ok kd N S d lo hi) (hdg : decode cc pc = .ok (i, len)) (h : cx_s4 oc nL lo hi pc len i c = some w)
    (k : fw_W p l e R s0 m args below meth c0 Q D tc ad kd N nL A w.1 (cx_lv ad st d w.2.1) (cx_sv ad st d w.2.2.1) (cx_S w.2.2.2.1 w.2.2.2.2 d S) n) : fw_W p l e R s0 m args below meth c0 Q D tc ad kd N nL A pc (cx_lv ad st d c.1) (cx_sv ad st d c.2.1) (cx_S c.2.2.1 c.2.2.2 d S) n := by
  unfold cx_s4 at h
  obtain ⟨o1, o2, o3, o4, o5⟩ := hok
  split at h
  · rename_i L j v s I G
    split at h
    · rename_i g
      obtain ⟨g1, g2, g3, g4, g5, g6, g7, g8, g9⟩ := g
      split at h
      · rename_i r hr
        cases h
        rw [g1] at hdg
        have hr1 := List.mem_of_find?_eq_some hr
        have hr2 := List.find?_some hr
        simp only [Bool.and_eq_true, decide_eq_true_eq] at hr2
        have e1 := o5 r hr1 (by omega) (by omega) j.2.toNat hr2.2.1 hr2.2.2
        rw [hr2.1] at e1
        show fw_W _ _ _ _ _ _ _ _ _ _ _ _ _ _ _ _ _ _ _ _ (cx_v ad st d j :: cx_v ad st d v :: cx_sv ad st d s) _ _
        rw [cx_v0 g2, cx_v22 g3]
        refine fw_aaload (n0 := (wd_kd v.2.toNat).2) (z := (wd_kd v.2.toNat).1) C0 (by omega) (by omega) (o4 _ g4 g5).1 (cx_vin g7 g9 g8) hdg ?_
        rw [(cx_ix g7 g9).1]
        have e2 : va_rf (((cx_S I G d S).2.2 (d + v.2.toNat) j.2.toNat).map ad) = .ref (ad (d + (r.2.2.2 + (j.2.toNat - r.2.1)))) := by
          show va_rf ((S.2.2 (d + v.2.toNat) j.2.toNat).map ad) = _
          rw [e1]
          rfl
        rw [e2]
        replace k : fw_W p l e R s0 m args below meth c0 Q D tc ad kd N nL A (pc + 1) (cx_lv ad st d L) (.ref (ad (d + (((r.2.2.2 + (j.2.toNat - r.2.1) : Nat) : Int)).toNat)) :: cx_sv ad st d s) (cx_S I G d S) n := k
        rw [Int.toNat_natCast] at k
        exact k
      · cases h
    · cases h
  · rename_i L j v s I G
    split at h
    · rename_i g
      obtain ⟨g1, g2, g3, g4⟩ := g
      rw [g1] at hdg
      show fw_W _ _ _ _ _ _ _ _ _ _ _ _ _ _ _ _ _ _ _ _ (cx_v ad st d j :: cx_v ad st d v :: cx_sv ad st d s) _ _
      rw [cx_v0 g2]
      split at h
      · rename_i hv
        split at h
        · rename_i z
          cases h
          rw [cx_v22 hv]
          refine fw_iaload (n0 := (wd_kd v.2.toNat).2) C0 (by omega) ((o4 _ z.1 z.2.1).1.trans (Prod.ext z.2.2.1 rfl)) (cx_vin g3 g4 z.2.2.2) hdg ?_
          rw [(cx_ix g3 g4).1, cx_rd_in ((o4 _ z.1 z.2.1).2.1 _)]
          replace k : fw_W p l e R s0 m args below meth c0 Q D tc ad kd N nL A (pc + 1) (cx_lv ad st d L) (cx_v ad st d (0, _) :: cx_sv ad st d s) (cx_S I G d S) n := k
          rw [cx_vi] at k
          exact k
        · cases h
      · rename_i hv
        split at h
        · rename_i q hq
          split at h
          · rename_i z
            cases h
            rw [cx_v3 hv]
            refine fw_tiaload C0 hSt hq (cx_vin g3 g4 z) hdg ?_
            rw [(cx_ix g3 g4).1]
            replace k : fw_W p l e R s0 m args below meth c0 Q D tc ad kd N nL A (pc + 1) (cx_lv ad st d L) (cx_v ad st d (0, _) :: cx_sv ad st d s) (cx_S I G d S) n := k
            rw [cx_vi] at k
            exact k
          · cases h
        · cases h
      · cases h
    · cases h
  · rename_i L v s I G
    split at h
    · rename_i g
      split at h
      · rename_i q hq
        cases h
        rw [g.1] at hdg
        show fw_W _ _ _ _ _ _ _ _ _ _ _ _ _ _ _ _ _ _ _ _ (cx_v ad st d v :: cx_sv ad st d s) _ _
        rw [cx_v3 g.2]
        refine fw_tlen C0 hSt hq hdg ?_
        replace k : fw_W p l e R s0 m args below meth c0 Q D tc ad kd N nL A (pc + 1) (cx_lv ad st d L) (cx_v ad st d (0, _) :: cx_sv ad st d s) (cx_S I G d S) n := k
        rw [cx_vi] at k
        exact k
      · cases h
    · cases h
  · rename_i idx L x v s I G
    split at h
    · rename_i q hq
      split at h
      · rename_i g
        obtain ⟨g1, g2, g3, g4, g5, g6, g7, g8⟩ := g
        cases h
        rw [g1] at hdg
        show fw_W _ _ _ _ _ _ _ _ _ _ _ _ _ _ _ _ _ _ _ _ (cx_v ad st d x :: cx_v ad st d v :: cx_sv ad st d s) _ _
        rw [cx_v0 g2, cx_v22 g3]
        refine gw_puti C0 ho hq (by omega) ((o4 _ g4 g5).1.trans g6) g7 g8 hdg ?_
        rw [cx_wr]
        exact k
      · cases h
    · cases h
  · rename_i L x j v s I G
    split at h
    · rename_i g
      obtain ⟨g1, g2, g3, g4, g5, g6, g7, g8, g9, g10⟩ := g
      cases h
      rw [g1] at hdg
      show fw_W _ _ _ _ _ _ _ _ _ _ _ _ _ _ _ _ _ _ _ _ (cx_v ad st d x :: cx_v ad st d j :: cx_v ad st d v :: cx_sv ad st d s) _ _
      rw [cx_v1 g2, cx_v0 g3, cx_v22 g4]
      refine fw_lastore (n0 := (wd_kd v.2.toNat).2) C0 (by omega) ((o4 _ g5 g6).1.trans (Prod.ext g7 rfl)) (cx_vin g8 g10 g9) hdg ?_
      rw [(cx_ix g8 g10).1, cx_wrl]
      exact k
    · cases h
  · rename_i k0 L v s I G
    split at h
    · rename_i g
      cases h
      rw [g.1] at hdg
      obtain ⟨x, hx⟩ := cx_v2 (ad := ad) (st := st) (d := d) g.2.1
      show fw_W _ _ _ _ _ _ _ _ _ _ _ _ _ _ _ _ _ _ _ _ (cx_v ad st d v :: cx_sv ad st d s) _ _
      rw [hx]
      refine fw_astore_n C0 rfl g.2.2.1 hdg (fw_W_sub ?_ k)
      rw [← hx]
      exact cx_put_in g.2.2.2
    · cases h
  · cases h
end C4
