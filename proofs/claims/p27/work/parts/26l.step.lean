/-! ===== A CONCRETE RUN: one step ===== -/
def cx_s5 (oc nL pc len : Nat) (i : Instr) (c : cx_C) : Option (Nat × cx_C) := match i, c with
  | .getstatic idx, (L, s, I, G) => (match (lks oc).find? (fun q => decide (q.1 = idx)) with
    | some q => if len = 3 then some (pc + 3, L, (3, (q.2.1 : Int)) :: s, I, G) else none
    | none => none)
  | .istore k, (L, v :: s, I, G) => if len = 2 ∧ v.1 = 0 ∧ k < nL ∧ cx_nl L = true then some (pc + 2, cx_put L k v, s, I, G) else none
  | _, _ => none
def cx_step (oc nL lo hi pc len : Nat) (i : Instr) (c : cx_C) : Option (Nat × cx_C) := match cx_s1 nL pc len i c.1 c.2.1 with
  | some w => some (w.1, w.2.1, w.2.2, c.2.2.1, c.2.2.2)
  | none => (match cx_s2 oc nL lo hi pc len i c with
    | some w => some w
    | none => (match cx_s3 pc len i c.2.1 with
      | some w => some (w.1, c.1, w.2, c.2.2.1, c.2.2.2)
      | none => (match cx_s4 oc nL lo hi pc len i c with
        | some w => some w
        | none => cx_s5 oc nL pc len i c)))
section C5
variable {p : Program} {l : Launch} {e : Env} {R : Room} {s0 : State} {m : MethodId} {args : Array Value} {below : List Frame} {meth : Method} {c0 : Code} {Q : State → Prop}
variable {D : va_G} {tc : Nat → ClassId} {ad : Nat → Nat} {kd : Nat → Nat × Nat} {N nL : Nat} {A : Nat → Prop} {own : String} {cc : ByteArray} {st : Nat → Nat}
variable {pc n d len lo hi oc : Nat} {S : fw_S}
theorem cx_s5_in {i : Instr} {c : cx_C} {w : Nat × cx_C} (C0 : fw_C p s0 m args meth c0 D tc A own cc nL) (hSt : fw_St st A s0 s0.heap) (ho : own = lk_own oc) (hdg : decode cc pc = .ok (i, len)) (h : cx_s5 oc nL pc len i c = some w)
    (k : fw_W p l e R s0 m args below meth c0 Q D tc ad kd N nL A w.1 (cx_lv ad st d w.2.1) (cx_sv ad st d w.2.2.1) (cx_S w.2.2.2.1 w.2.2.2.2 d S) n) : fw_W p l e R s0 m args below meth c0 Q D tc ad kd N nL A pc (cx_lv ad st d c.1) (cx_sv ad st d c.2.1) (cx_S c.2.2.1 c.2.2.2 d S) n := by
  unfold cx_s5 at h
  split at h
  · rename_i idx L s I G
    split at h
    · rename_i q hq
      split at h
      · rename_i g
        cases h
        rw [g] at hdg
        have q1 : q.1 = idx := by simpa using List.find?_some hq
        have q2 := lks_ok oc q (List.mem_of_find?_eq_some hq)
        replace k : fw_W p l e R s0 m args below meth c0 Q D tc ad kd N nL A (pc + 3) (cx_lv ad st d L) (.ref (st ((q.2.1 : Int)).toNat) :: cx_sv ad st d s) (cx_S I G d S) n := k
        rw [Int.toNat_natCast] at k
        unfold lks_b at q2
        split at q2
        · rename_i a b z hz
          rw [← ho, q1] at q2
          split at q2
          · exact fw_getstatic C0 hSt hz (lk_chk_in q2) hdg k
          · exact fw_getstaticN C0 hSt hz (lk_at_in q2 rfl) hdg k
        · cases q2
      · cases h
    · cases h
  · rename_i k0 L v s I G
    split at h
    · rename_i g
      cases h
      rw [g.1] at hdg
      show fw_W _ _ _ _ _ _ _ _ _ _ _ _ _ _ _ _ _ _ _ _ (cx_v ad st d v :: cx_sv ad st d s) _ _
      rw [cx_v0 g.2.1]
      refine fw_istore C0 g.2.2.1 hdg (fw_W_sub ?_ k)
      rw [← cx_v0 (ad := ad) (st := st) (d := d) g.2.1]
      exact cx_put_in g.2.2.2
    · cases h
  · cases h
theorem cx_step_in {i : Instr} {c : cx_C} {w : Nat × cx_C} (C0 : fw_C p s0 m args meth c0 D tc A own cc nL) (hSt : fw_St st A s0 s0.heap) (ho : own = lk_own oc) (hok : cx_ok kd N S d lo hi) (hdg : decode cc pc = .ok (i, len)) (h : cx_step oc nL lo hi pc len i c = some w)
    (k : fw_W p l e R s0 m args below meth c0 Q D tc ad kd N nL A w.1 (cx_lv ad st d w.2.1) (cx_sv ad st d w.2.2.1) (cx_S w.2.2.2.1 w.2.2.2.2 d S) n) : fw_W p l e R s0 m args below meth c0 Q D tc ad kd N nL A pc (cx_lv ad st d c.1) (cx_sv ad st d c.2.1) (cx_S c.2.2.1 c.2.2.2 d S) n := by
  unfold cx_step at h
  split at h
  · rename_i w1 h1
    cases h
    exact cx_s1_in C0 hdg h1 k
  · split at h
    · rename_i w1 h1
      cases h
      exact cx_s2_in C0 ho hok hdg h1 k
    · split at h
      · rename_i w1 h1
        cases h
        exact cx_s3_in C0 hdg h1 k
      · split at h
        · rename_i w1 h1
          cases h
          exact cx_s4_in C0 hSt ho hok hdg h1 k
        · exact cx_s5_in C0 hSt ho hdg h k
/-- steps as long as there are any (a call, a return, what isn't known here: stop) -/
def cx_go (oc nL lo hi : Nat) (cc : ByteArray) : Nat → Nat → cx_C → Nat × cx_C
  | 0, pc, c => (pc, c)
  | f + 1, pc, c => (match decode cc pc with
    | .ok (i, len) => (match cx_step oc nL lo hi pc len i c with
      | some w => cx_go oc nL lo hi cc f w.1 w.2
      | none => (pc, c))
    | .error _ => (pc, c))
theorem cx_go_in (C0 : fw_C p s0 m args meth c0 D tc A own cc nL) (hSt : fw_St st A s0 s0.heap) (ho : own = lk_own oc) (hok : cx_ok kd N S d lo hi) : ∀ (f pc : Nat) (c : cx_C) (w : Nat × cx_C), cx_go oc nL lo hi cc f pc c = w →
    fw_W p l e R s0 m args below meth c0 Q D tc ad kd N nL A w.1 (cx_lv ad st d w.2.1) (cx_sv ad st d w.2.2.1) (cx_S w.2.2.2.1 w.2.2.2.2 d S) n → fw_W p l e R s0 m args below meth c0 Q D tc ad kd N nL A pc (cx_lv ad st d c.1) (cx_sv ad st d c.2.1) (cx_S c.2.2.1 c.2.2.2 d S) n
  | 0, pc, c, w, h, k => by
    rw [← h] at k
    exact k
  | f + 1, pc, c, w, h, k => by
    unfold cx_go at h
    split at h
    · rename_i i len hdg
      split at h
      · rename_i w1 h1
        exact cx_step_in C0 hSt ho hok hdg h1 (cx_go_in C0 hSt ho hok f w1.1 w1.2 w h k)
      · rw [← h] at k
        exact k
    · rw [← h] at k
      exact k
end C5
