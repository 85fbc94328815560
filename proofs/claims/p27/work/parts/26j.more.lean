/-! ===== A CONCRETE RUN: more steps on operands ===== -/
def cx_s3 (pc len : Nat) (i : Instr) (s : List cx_V) : Option (Nat × List cx_V) := match i, s with
  | .idiv, y :: x :: r => if len = 1 ∧ x.1 = 0 ∧ y.1 = 0 ∧ ¬ Int32.ofInt y.2 = 0 then some (pc + 1, (0, ((Int32.ofInt x.2) / (Int32.ofInt y.2)).toInt) :: r) else none
  | .irem, y :: x :: r => if len = 1 ∧ x.1 = 0 ∧ y.1 = 0 ∧ ¬ Int32.ofInt y.2 = 0 then some (pc + 1, (0, ((Int32.ofInt x.2) - (Int32.ofInt x.2) / (Int32.ofInt y.2) * (Int32.ofInt y.2)).toInt) :: r) else none
  | .ishl, y :: x :: r => if len = 1 ∧ x.1 = 0 ∧ y.1 = 0 then some (pc + 1, (0, ((Int32.ofInt x.2) <<< ((Int32.ofInt y.2) &&& 31)).toInt) :: r) else none
  | .ior, y :: x :: r => if len = 1 ∧ x.1 = 0 ∧ y.1 = 0 then some (pc + 1, (0, ((Int32.ofInt x.2) ||| (Int32.ofInt y.2)).toInt) :: r) else none
  | .dup, x :: r => if len = 1 ∧ x.1 ≠ 1 then some (pc + 1, x :: x :: r) else none
  | .dup2, x :: y :: r => if len = 1 ∧ x.1 ≠ 1 ∧ y.1 ≠ 1 then some (pc + 1, x :: y :: x :: y :: r) else none
  | .pop, x :: r => if len = 1 ∧ x.1 ≠ 1 then some (pc + 1, r) else none
  | .ifCond .le off, x :: r => if len = 3 ∧ x.1 = 0 ∧ 0 ≤ (pc : Int) + off then (if Int32.ofInt x.2 ≤ 0 then some (((pc : Int) + off).toNat, r) else some (pc + 3, r)) else none
  | .ifCond .eq off, x :: r => if len = 3 ∧ x.1 = 0 ∧ 0 ≤ (pc : Int) + off then (if Int32.ofInt x.2 = 0 then some (((pc : Int) + off).toNat, r) else some (pc + 3, r)) else none
  | .if_icmp .gt off, y :: x :: r => if len = 3 ∧ x.1 = 0 ∧ y.1 = 0 ∧ 0 ≤ (pc : Int) + off then (if Int32.ofInt y.2 < Int32.ofInt x.2 then some (((pc : Int) + off).toNat, r) else some (pc + 3, r)) else none
  | .if_icmp .le off, y :: x :: r => if len = 3 ∧ x.1 = 0 ∧ y.1 = 0 ∧ 0 ≤ (pc : Int) + off then (if Int32.ofInt x.2 ≤ Int32.ofInt y.2 then some (((pc : Int) + off).toNat, r) else some (pc + 3, r)) else none
  | _, _ => none
section CZ
variable {p : Program} {l : Launch} {e : Env} {R : Room} {s0 : State} {m : MethodId} {args : Array Value} {below : List Frame} {meth : Method} {c0 : Code} {Q : State → Prop}
variable {D : va_G} {tc : Nat → ClassId} {ad : Nat → Nat} {kd : Nat → Nat × Nat} {N nL : Nat} {A : Nat → Prop} {own : String} {cc : ByteArray} {st : Nat → Nat}
variable {pc n d len : Nat} {lv : List (Nat × Value)} {s : List cx_V} {S : fw_S}
theorem cx_s3_in {i : Instr} {w : Nat × List cx_V} (C0 : fw_C p s0 m args meth c0 D tc A own cc nL) (hdg : decode cc pc = .ok (i, len)) (h : cx_s3 pc len i s = some w)
    (k : fw_W p l e R s0 m args below meth c0 Q D tc ad kd N nL A w.1 lv (cx_sv ad st d w.2) S n) : fw_W p l e R s0 m args below meth c0 Q D tc ad kd N nL A pc lv (cx_sv ad st d s) S n := by
  unfold cx_s3 at h
  split at h
  · rename_i y x r
    split at h
    · rename_i g
      cases h
      replace k : fw_W p l e R s0 m args below meth c0 Q D tc ad kd N nL A (pc + 1) lv (cx_v ad st d (0, _) :: cx_sv ad st d r) S n := k
      rw [cx_vi] at k
      rw [g.1] at hdg
      show fw_W _ _ _ _ _ _ _ _ _ _ _ _ _ _ _ _ _ _ _ _ (cx_v ad st d y :: cx_v ad st d x :: cx_sv ad st d r) _ _
      rw [cx_v0 g.2.1, cx_v0 g.2.2.1]
      exact fw_idiv C0 g.2.2.2 hdg k
    · cases h
  · rename_i y x r
    split at h
    · rename_i g
      cases h
      replace k : fw_W p l e R s0 m args below meth c0 Q D tc ad kd N nL A (pc + 1) lv (cx_v ad st d (0, _) :: cx_sv ad st d r) S n := k
      rw [cx_vi] at k
      rw [g.1] at hdg
      show fw_W _ _ _ _ _ _ _ _ _ _ _ _ _ _ _ _ _ _ _ _ (cx_v ad st d y :: cx_v ad st d x :: cx_sv ad st d r) _ _
      rw [cx_v0 g.2.1, cx_v0 g.2.2.1]
      exact fw_irem C0 g.2.2.2 hdg k
    · cases h
  · rename_i y x r
    split at h
    · rename_i g
      cases h
      replace k : fw_W p l e R s0 m args below meth c0 Q D tc ad kd N nL A (pc + 1) lv (cx_v ad st d (0, _) :: cx_sv ad st d r) S n := k
      rw [cx_vi] at k
      rw [g.1] at hdg
      show fw_W _ _ _ _ _ _ _ _ _ _ _ _ _ _ _ _ _ _ _ _ (cx_v ad st d y :: cx_v ad st d x :: cx_sv ad st d r) _ _
      rw [cx_v0 g.2.1, cx_v0 g.2.2]
      exact fw_ishl C0 hdg k
    · cases h
  · rename_i y x r
    split at h
    · rename_i g
      cases h
      replace k : fw_W p l e R s0 m args below meth c0 Q D tc ad kd N nL A (pc + 1) lv (cx_v ad st d (0, _) :: cx_sv ad st d r) S n := k
      rw [cx_vi] at k
      rw [g.1] at hdg
      show fw_W _ _ _ _ _ _ _ _ _ _ _ _ _ _ _ _ _ _ _ _ (cx_v ad st d y :: cx_v ad st d x :: cx_sv ad st d r) _ _
      rw [cx_v0 g.2.1, cx_v0 g.2.2]
      exact fw_ior C0 hdg k
    · cases h
  · rename_i x r
    split at h
    · rename_i g
      cases h
      rw [g.1] at hdg
      show fw_W _ _ _ _ _ _ _ _ _ _ _ _ _ _ _ _ _ _ _ _ (cx_v ad st d x :: cx_sv ad st d r) _ _
      exact fw_dup C0 (cx_cat g.2) hdg k
    · cases h
  · rename_i x y r
    split at h
    · rename_i g
      cases h
      rw [g.1] at hdg
      show fw_W _ _ _ _ _ _ _ _ _ _ _ _ _ _ _ _ _ _ _ _ (cx_v ad st d x :: cx_v ad st d y :: cx_sv ad st d r) _ _
      exact fw_dup2 C0 (cx_cat g.2.1) (cx_cat g.2.2) hdg k
    · cases h
  · rename_i x r
    split at h
    · rename_i g
      cases h
      rw [g.1] at hdg
      show fw_W _ _ _ _ _ _ _ _ _ _ _ _ _ _ _ _ _ _ _ _ (cx_v ad st d x :: cx_sv ad st d r) _ _
      exact fw_pop C0 (cx_cat g.2) hdg k
    · cases h
  · rename_i off x r
    split at h
    · rename_i g
      rw [g.1] at hdg
      show fw_W _ _ _ _ _ _ _ _ _ _ _ _ _ _ _ _ _ _ _ _ (cx_v ad st d x :: cx_sv ad st d r) _ _
      rw [cx_v0 g.2.1]
      refine fw_if_le C0 (Int.toNat_of_nonneg g.2.2).symm hdg (fun z => ?_) (fun z => ?_)
      · rw [if_pos z] at h
        cases h
        exact k
      · rw [if_neg z] at h
        cases h
        exact k
    · cases h
  · rename_i off x r
    split at h
    · rename_i g
      rw [g.1] at hdg
      show fw_W _ _ _ _ _ _ _ _ _ _ _ _ _ _ _ _ _ _ _ _ (cx_v ad st d x :: cx_sv ad st d r) _ _
      rw [cx_v0 g.2.1]
      refine fw_if_eq C0 (Int.toNat_of_nonneg g.2.2).symm hdg (fun z => ?_) (fun z => ?_)
      · rw [if_pos z] at h
        cases h
        exact k
      · rw [if_neg z] at h
        cases h
        exact k
    · cases h
  · rename_i off y x r
    split at h
    · rename_i g
      rw [g.1] at hdg
      show fw_W _ _ _ _ _ _ _ _ _ _ _ _ _ _ _ _ _ _ _ _ (cx_v ad st d y :: cx_v ad st d x :: cx_sv ad st d r) _ _
      rw [cx_v0 g.2.1, cx_v0 g.2.2.1]
      refine fw_icmp_gt C0 (Int.toNat_of_nonneg g.2.2.2).symm hdg (fun z => ?_) (fun z => ?_)
      · rw [if_pos z] at h
        cases h
        exact k
      · rw [if_neg z] at h
        cases h
        exact k
    · cases h
  · rename_i off y x r
    split at h
    · rename_i g
      rw [g.1] at hdg
      show fw_W _ _ _ _ _ _ _ _ _ _ _ _ _ _ _ _ _ _ _ _ (cx_v ad st d y :: cx_v ad st d x :: cx_sv ad st d r) _ _
      rw [cx_v0 g.2.1, cx_v0 g.2.2.1]
      refine fw_icmp_le C0 (Int.toNat_of_nonneg g.2.2.2).symm hdg (fun z => ?_) (fun z => ?_)
      · rw [if_pos z] at h
        cases h
        exact k
      · rw [if_neg z] at h
        cases h
        exact k
    · cases h
  · cases h
end CZ
