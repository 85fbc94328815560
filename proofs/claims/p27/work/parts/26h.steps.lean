/-! ===== A CONCRETE RUN: steps on locals, operands and numbers ===== -/
/-- one step, of what neither reads nor writes cells: the next place, locals, operands -/
def cx_s1 (nL pc len : Nat) (i : Instr) (L : cx_L) (s : List cx_V) : Option (Nat × cx_L × List cx_V) := match i with
  | .aload_n k => (match cx_ld L k with
    | some v => if len = 1 ∧ 2 ≤ v.1 then some (pc + 1, L, v :: s) else none
    | none => none)
  | .iload_n k => (match cx_ld L k with
    | some v => if len = 1 ∧ v.1 = 0 then some (pc + 1, L, v :: s) else none
    | none => none)
  | .iload k => (match cx_ld L k with
    | some v => if len = 2 ∧ v.1 = 0 then some (pc + 2, L, v :: s) else none
    | none => none)
  | .iconst n => if len = 1 then some (pc + 1, L, (0, (Int32.ofInt n).toInt) :: s) else none
  | .bipush n => if len = 2 then some (pc + 2, L, (0, ((Int8.ofInt n).toInt32).toInt) :: s) else none
  | .sipush n => if len = 3 then some (pc + 3, L, (0, ((Int16.ofInt n).toInt32).toInt) :: s) else none
  | .iadd => (match s with
    | y :: x :: r => if len = 1 ∧ x.1 = 0 ∧ y.1 = 0 then some (pc + 1, L, (0, (Int32.ofInt x.2 + Int32.ofInt y.2).toInt) :: r) else none
    | _ => none)
  | .isub => (match s with
    | y :: x :: r => if len = 1 ∧ x.1 = 0 ∧ y.1 = 0 then some (pc + 1, L, (0, (Int32.ofInt x.2 - Int32.ofInt y.2).toInt) :: r) else none
    | _ => none)
  | .imul => (match s with
    | y :: x :: r => if len = 1 ∧ x.1 = 0 ∧ y.1 = 0 then some (pc + 1, L, (0, (Int32.ofInt x.2 * Int32.ofInt y.2).toInt) :: r) else none
    | _ => none)
  | .goto off => if len = 3 ∧ 0 ≤ (pc : Int) + off then some (((pc : Int) + off).toNat, L, s) else none
  | .if_icmp .ge off => (match s with
    | y :: x :: r => if len = 3 ∧ x.1 = 0 ∧ y.1 = 0 ∧ 0 ≤ (pc : Int) + off then (if Int32.ofInt y.2 ≤ Int32.ofInt x.2 then some (((pc : Int) + off).toNat, L, r) else some (pc + 3, L, r)) else none
    | _ => none)
  | _ => none
section CX
variable {p : Program} {l : Launch} {e : Env} {R : Room} {s0 : State} {m : MethodId} {args : Array Value} {below : List Frame} {meth : Method} {c0 : Code} {Q : State → Prop}
variable {D : va_G} {tc : Nat → ClassId} {ad : Nat → Nat} {kd : Nat → Nat × Nat} {N nL : Nat} {A : Nat → Prop} {own : String} {cc : ByteArray} {st : Nat → Nat}
variable {pc n d len : Nat} {L : cx_L} {s : List cx_V} {S : fw_S}
theorem cx_v0 {v : cx_V} (h : v.1 = 0) : cx_v ad st d v = .int (Int32.ofInt v.2) := by
  unfold cx_v
  rw [h]
  rfl
theorem cx_v2 {v : cx_V} (h : 2 ≤ v.1) : ∃ x, cx_v ad st d v = .ref x := by
  unfold cx_v
  split
  · omega
  · omega
  · exact ⟨_, rfl⟩
  · exact ⟨_, rfl⟩
theorem cx_vi {x : Int32} : cx_v ad st d (0, x.toInt) = .int x := by
  show Value.int (Int32.ofInt x.toInt) = _
  rw [Int32.ofInt_toInt]
theorem cx_s1_in {i : Instr} {w : Nat × cx_L × List cx_V} (C0 : fw_C p s0 m args meth c0 D tc A own cc nL) (hdg : decode cc pc = .ok (i, len)) (h : cx_s1 nL pc len i L s = some w)
    (k : fw_W p l e R s0 m args below meth c0 Q D tc ad kd N nL A w.1 (cx_lv ad st d w.2.1) (cx_sv ad st d w.2.2) S n) : fw_W p l e R s0 m args below meth c0 Q D tc ad kd N nL A pc (cx_lv ad st d L) (cx_sv ad st d s) S n := by
  unfold cx_s1 at h
  split at h
  · rename_i k0
    split at h
    · rename_i v hv
      split at h
      · rename_i g
        cases h
        obtain ⟨x, hx⟩ := cx_v2 (ad := ad) (st := st) (d := d) g.2
        have hm := cx_ld_in (ad := ad) (st := st) (d := d) hv
        rw [hx] at hm
        replace k : fw_W p l e R s0 m args below meth c0 Q D tc ad kd N nL A (pc + 1) (cx_lv ad st d L) (cx_v ad st d v :: cx_sv ad st d s) S n := k
        rw [hx] at k
        rw [g.1] at hdg
        exact fw_aload_n C0 hm hdg k
      · cases h
    · cases h
  · rename_i k0
    split at h
    · rename_i v hv
      split at h
      · rename_i g
        cases h
        have hm := cx_ld_in (ad := ad) (st := st) (d := d) hv
        rw [cx_v0 g.2] at hm
        replace k : fw_W p l e R s0 m args below meth c0 Q D tc ad kd N nL A (pc + 1) (cx_lv ad st d L) (cx_v ad st d v :: cx_sv ad st d s) S n := k
        rw [cx_v0 g.2] at k
        rw [g.1] at hdg
        exact fw_iload_n C0 hm hdg k
      · cases h
    · cases h
  · rename_i k0
    split at h
    · rename_i v hv
      split at h
      · rename_i g
        cases h
        have hm := cx_ld_in (ad := ad) (st := st) (d := d) hv
        rw [cx_v0 g.2] at hm
        replace k : fw_W p l e R s0 m args below meth c0 Q D tc ad kd N nL A (pc + 2) (cx_lv ad st d L) (cx_v ad st d v :: cx_sv ad st d s) S n := k
        rw [cx_v0 g.2] at k
        rw [g.1] at hdg
        exact fw_iload C0 hm hdg k
      · cases h
    · cases h
  · split at h
    · rename_i g
      cases h
      replace k : fw_W p l e R s0 m args below meth c0 Q D tc ad kd N nL A (pc + 1) (cx_lv ad st d L) (cx_v ad st d (0, _) :: cx_sv ad st d s) S n := k
      rw [cx_vi] at k
      rw [g] at hdg
      exact fw_iconst C0 hdg k
    · cases h
  · split at h
    · rename_i g
      cases h
      replace k : fw_W p l e R s0 m args below meth c0 Q D tc ad kd N nL A (pc + 2) (cx_lv ad st d L) (cx_v ad st d (0, _) :: cx_sv ad st d s) S n := k
      rw [cx_vi] at k
      rw [g] at hdg
      exact fw_bipush C0 hdg k
    · cases h
  · split at h
    · rename_i g
      cases h
      replace k : fw_W p l e R s0 m args below meth c0 Q D tc ad kd N nL A (pc + 3) (cx_lv ad st d L) (cx_v ad st d (0, _) :: cx_sv ad st d s) S n := k
      rw [cx_vi] at k
      rw [g] at hdg
      exact fw_sipush C0 hdg k
    · cases h
  · split at h
    · rename_i y x r
      split at h
      · rename_i g
        cases h
        replace k : fw_W p l e R s0 m args below meth c0 Q D tc ad kd N nL A (pc + 1) (cx_lv ad st d L) (cx_v ad st d (0, _) :: cx_sv ad st d r) S n := k
        rw [cx_vi] at k
        rw [g.1] at hdg
        show fw_W _ _ _ _ _ _ _ _ _ _ _ _ _ _ _ _ _ _ _ _ (cx_v ad st d y :: cx_v ad st d x :: cx_sv ad st d r) _ _
        rw [cx_v0 g.2.1, cx_v0 g.2.2]
        exact fw_iadd C0 hdg k
      · cases h
    · cases h
  · split at h
    · rename_i y x r
      split at h
      · rename_i g
        cases h
        replace k : fw_W p l e R s0 m args below meth c0 Q D tc ad kd N nL A (pc + 1) (cx_lv ad st d L) (cx_v ad st d (0, _) :: cx_sv ad st d r) S n := k
        rw [cx_vi] at k
        rw [g.1] at hdg
        show fw_W _ _ _ _ _ _ _ _ _ _ _ _ _ _ _ _ _ _ _ _ (cx_v ad st d y :: cx_v ad st d x :: cx_sv ad st d r) _ _
        rw [cx_v0 g.2.1, cx_v0 g.2.2]
        exact fw_isub C0 hdg k
      · cases h
    · cases h
  · split at h
    · rename_i y x r
      split at h
      · rename_i g
        cases h
        replace k : fw_W p l e R s0 m args below meth c0 Q D tc ad kd N nL A (pc + 1) (cx_lv ad st d L) (cx_v ad st d (0, _) :: cx_sv ad st d r) S n := k
        rw [cx_vi] at k
        rw [g.1] at hdg
        show fw_W _ _ _ _ _ _ _ _ _ _ _ _ _ _ _ _ _ _ _ _ (cx_v ad st d y :: cx_v ad st d x :: cx_sv ad st d r) _ _
        rw [cx_v0 g.2.1, cx_v0 g.2.2]
        exact fw_imul C0 hdg k
      · cases h
    · cases h
  · split at h
    · rename_i g
      cases h
      rw [g.1] at hdg
      exact fw_goto C0 (Int.toNat_of_nonneg g.2).symm hdg k
    · cases h
  · split at h
    · rename_i y x r
      split at h
      · rename_i g
        rw [g.1] at hdg
        show fw_W _ _ _ _ _ _ _ _ _ _ _ _ _ _ _ _ _ _ _ _ (cx_v ad st d y :: cx_v ad st d x :: cx_sv ad st d r) _ _
        rw [cx_v0 g.2.1, cx_v0 g.2.2.1]
        refine fw_icmp_ge C0 (Int.toNat_of_nonneg g.2.2.2).symm hdg (fun z => ?_) (fun z => ?_)
        · rw [if_pos z] at h
          cases h
          exact k
        · rw [if_neg z] at h
          cases h
          exact k
      · cases h
    · cases h
  · cases h
end CX
