/-! ===== CONSTRUCTORS: references into fields; what stands of a world that grows ===== -/
theorem fw_v_r {ad : Nat → Nat} {S : fw_S} {k j i t : Nat} {x : Option Nat} (h : i ≠ j) : fw_v ad (fw_r S k j x) k i t = fw_v ad S k i t := by
  match t with
  | 0 => rfl
  | 1 => rfl
  | t + 2 =>
    show va_rf ((if k = k ∧ i = j then x else S.2.2 k i).map ad) = va_rf ((S.2.2 k i).map ad)
    rw [if_neg (fun q => h q.2)]
/-- a final field of the class's own, in its constructor -/
def q_finb (oc : Nat) (q : lk_F) : Bool := match vwCl[q.2.1]? with
  | some c => (c.2.1 q.2.2.1).2.2.2 && decide ((c.2.1 q.2.2.1).1 = lk_own oc)
  | none => false
def ty_ref (t : FieldType) : Bool := match t with
  | .object _ => true
  | .array _ => true
  | _ => false
theorem ty_ref_in {t : FieldType} {x : Nat} (h : ty_ref t = true) : narrow t (.ref x) = .ref x ∧ fits t (.ref x) = true ∧ fw_fk t = 2 := by
  cases t <;> first | exact ⟨rfl, rfl, rfl⟩ | cases h
section GP
variable {p : Program} {l : Launch} {e : Env} {R : Room} {s : State} {m : MethodId} {args : Array Value} {below : List Frame} {meth : Method} {c : Code} {Q : State → Prop}
variable {D : va_G} {tc : Nat → ClassId} {ad : Nat → Nat} {kd : Nat → Nat × Nat} {N nL : Nat} {A : Nat → Prop} {own : String} {cc : ByteArray} {st : Nat → Nat}
variable {pc n : Nat} {lv : List (Nat × Value)} {rest : List Value} {S : fw_S}
theorem gw_putr {oc idx k v : Nat} {q : lk_F} (C0 : fw_C p s m args meth c D tc A own cc nL) (hnm : meth.name = "<init>") (ho : own = lk_own oc) (hq : lkf_at oc idx = some q) (hk : k < N) (hkd : kd k = (q.2.1 + 6, cl_n q.2.1)) (hty : ty_ref (fw_ty q.2.1 q.2.2.1) = true) (hfin : q_finb oc q = true) (hdg : decode cc pc = .ok (.putfield idx, 3))
    (kk : fw_W p l e R s m args below meth c Q D tc ad kd N nL A (pc + 3) lv rest (fw_r S k q.2.2.1 (some v)) n) : fw_W p l e R s m args below meth c Q D tc ad kd N nL A pc lv (.ref (ad v) :: .ref (ad k) :: rest) S n := by
  obtain ⟨c1, h1, h2, h3⟩ := lkf_at_in hq
  have hc : cl_n q.2.1 = c1.2.2 := by unfold cl_n; rw [h1]
  rw [← ho] at h3
  obtain ⟨t1, t2, t3⟩ := ty_ref_in (x := ad v) hty
  have hf2 : (c1.2.1 q.2.2.1).2.2.2 = true ∧ (c1.2.1 q.2.2.1).1 = own := by
    unfold q_finb at hfin
    rw [h1] at hfin
    simp only [Bool.and_eq_true, decide_eq_true_eq] at hfin
    exact ⟨hfin.1, hfin.2.trans ho.symm⟩
  have hv : fw_v ad (fw_r S k q.2.2.1 (some v)) k q.2.2.1 (fw_fk (fw_ty q.2.1 q.2.2.1)) = .ref (ad v) := by
    rw [t3]
    show va_rf ((if k = k ∧ q.2.2.1 = q.2.2.1 then some v else _).map ad) = _
    rw [if_pos ⟨rfl, rfl⟩]
    rfl
  intro H locs ls cells slots z1 z2 hP hD hS hl
  refine va_putF C0.1 C0.2.1 C0.2.2.2.2.1 (cl_ws h1) (fw_ty q.2.1) (cl_ty h1).1 (cl_ty h1).2 C0.2.2.2.1 C0.2.2.2.2.2.1 hP hD hS k (fs := (List.range c1.2.2).map (fun j => fw_v ad S k j (fw_fk (fw_ty q.2.1 j)))) (by rw [fw_w_at hk, hkd, hc]; rfl) h1 q.2.2.1 h2 (C0.2.2.2.2.1 _ h3) (fun _ h => h) hf2.1 hnm hf2.2 ((cl_ty h1).1 q.2.2.1 h2) t1 t2 (by simpa using h2) hdg
    (fun H1 locs1 hP1 hD1 hS1 => ?_)
  rw [fw_fset hv (fun i hi => fw_v_r hi), fw_w_set (tc := tc) (ad := ad) (kd := kd) (S := S) (S' := fw_r S k q.2.2.1 (some v)) hk (by rw [hkd, hc]; rfl) (fun a ha => fw_e_off rfl rfl (fw_r_off ha))] at hP1 hD1
  exact kk H1 locs1 ls cells slots z1 z2 hP1 hD1 hS1 hl
end GP
/-- references lead to cells that are made; what isn't made yet is empty -/
def gw_ok (S : fw_S) (N : Nat) : Prop := gw_cl S N ∧ ∀ k, N ≤ k → gw_df S k
theorem gw_ok_1 {S : fw_S} {N : Nat} (h : gw_ok S N) : gw_ok S (N + 1) := by
  refine ⟨fun k hk j v hv => ?_, fun k hk => h.2 k (by omega)⟩
  by_cases hkN : k < N
  · have := h.1 k hkN j v hv
    omega
  · rw [(h.2 k (by omega)).2.2 j] at hv
    cases hv
theorem gw_ok_rows {S : fw_S} {N n : Nat} (h : gw_ok S N) : gw_ok (gw_rows S N n) (N + 1 + n) := by
  refine ⟨fun k hk j v hv => ?_, fun k hk => ⟨(h.2 k (by omega)).1, (h.2 k (by omega)).2.1, fun j => ?_⟩⟩
  · by_cases g : k = N ∧ j < n
    · have hv2 : (if k = N ∧ j < n then some (N + 1 + j) else S.2.2 k j) = some v := hv
      rw [if_pos g] at hv2
      cases hv2
      omega
    · have hv2 : (if k = N ∧ j < n then some (N + 1 + j) else S.2.2 k j) = some v := hv
      rw [if_neg g] at hv2
      by_cases hkN : k < N
      · have := h.1 k hkN j v hv2
        omega
      · rw [(h.2 k (by omega)).2.2 j] at hv2
        cases hv2
  · show (if k = N ∧ j < n then some (N + 1 + j) else S.2.2 k j) = none
    rw [if_neg (by omega)]
    exact (h.2 k (by omega)).2.2 j
theorem gw_ok_r {S : fw_S} {N k j v : Nat} (h : gw_ok S N) (hk : k < N) (hv : v < N) : gw_ok (fw_r S k j (some v)) N := by
  refine ⟨fun k1 hk1 j1 v1 hv1 => ?_, fun k1 hk1 => ⟨(h.2 k1 hk1).1, (h.2 k1 hk1).2.1, fun j1 => ?_⟩⟩
  · have hv2 : (if k1 = k ∧ j1 = j then some v else S.2.2 k1 j1) = some v1 := hv1
    by_cases g : k1 = k ∧ j1 = j
    · rw [if_pos g] at hv2
      cases hv2
      exact hv
    · rw [if_neg g] at hv2
      exact h.1 k1 hk1 j1 v1 hv2
  · show (if k1 = k ∧ j1 = j then some v else S.2.2 k1 j1) = none
    rw [if_neg (by omega)]
    exact (h.2 k1 hk1).2.2 j1
theorem gw_ok_i {S : fw_S} {N k j : Nat} {x : Int32} (h : gw_ok S N) (hk : k < N) : gw_ok (fw_i S k j x) N := by
  refine ⟨h.1, fun k1 hk1 => ⟨fun j1 => ?_, (h.2 k1 hk1).2.1, (h.2 k1 hk1).2.2⟩⟩
  show (if k1 = k ∧ j1 = j then x else S.1 k1 j1) = 0
  rw [if_neg (by omega)]
  exact (h.2 k1 hk1).1 j1
theorem gw_ok_l {S : fw_S} {N k j : Nat} {x : Int64} (h : gw_ok S N) (hk : k < N) : gw_ok (fw_l S k j x) N := by
  refine ⟨h.1, fun k1 hk1 => ⟨(h.2 k1 hk1).1, fun j1 => ?_, (h.2 k1 hk1).2.2⟩⟩
  show (if k1 = k ∧ j1 = j then x else S.2.1 k1 j1) = 0
  rw [if_neg (by omega)]
  exact (h.2 k1 hk1).2.1 j1
/-! references as a list of what was set: (cell, from, to, the cell of the first), all from a base d on -/
def rl_f (L : List (Nat × Nat × Nat × Nat)) (d a j : Nat) : Option Nat := (L.find? (fun q => decide (a = d + q.1) && (decide (q.2.1 ≤ j) && decide (j ≤ q.2.2.1)))).map (fun q => d + (q.2.2.2 + (j - q.2.1)))
def rl_S (L : List (Nat × Nat × Nat × Nat)) (d : Nat) (S : fw_S) : fw_S := (S.1, S.2.1, fun a j => match rl_f L d a j with | some v => some v | none => S.2.2 a j)
theorem rl_nil {d : Nat} {S : fw_S} : rl_S [] d S = S := rfl
theorem rl_r {L : List (Nat × Nat × Nat × Nat)} {d k j v : Nat} {S : fw_S} : fw_r (rl_S L d S) (d + k) j (some (d + v)) = rl_S ((k, j, j, v) :: L) d S := by
  refine Prod.ext rfl (Prod.ext rfl (funext fun a => funext fun i => ?_))
  show (if a = d + k ∧ i = j then some (d + v) else match rl_f L d a i with | some v => some v | none => S.2.2 a i) = match rl_f ((k, j, j, v) :: L) d a i with | some v => some v | none => S.2.2 a i
  unfold rl_f
  rw [List.find?_cons]
  by_cases g : a = d + k ∧ i = j
  · rw [if_pos g, g.1, g.2]
    simp
  · rw [if_neg g]
    have hb : (decide (a = d + k) && (decide (j ≤ i) && decide (i ≤ j))) = false := by
      by_cases g1 : a = d + k
      · have : ¬ i = j := fun q => g ⟨g1, q⟩
        by_cases g2 : j ≤ i
        · have : ¬ i ≤ j := by omega
          simp [this]
        · simp [g2]
      · simp [g1]
    dsimp only
    rw [hb]
theorem rl_rows {L : List (Nat × Nat × Nat × Nat)} {d k n : Nat} {S : fw_S} (hn : 0 < n) : gw_rows (rl_S L d S) (d + k) n = rl_S ((k, 0, n - 1, k + 1) :: L) d S := by
  refine Prod.ext rfl (Prod.ext rfl (funext fun a => funext fun i => ?_))
  show (if a = d + k ∧ i < n then some (d + k + 1 + i) else match rl_f L d a i with | some v => some v | none => S.2.2 a i) = match rl_f ((k, 0, n - 1, k + 1) :: L) d a i with | some v => some v | none => S.2.2 a i
  unfold rl_f
  rw [List.find?_cons]
  by_cases g : a = d + k ∧ i < n
  · rw [if_pos g, g.1]
    have h1 : i ≤ n - 1 := by omega
    simp [h1]
    omega
  · rw [if_neg g]
    have hb : (decide (a = d + k) && (decide (0 ≤ i) && decide (i ≤ n - 1))) = false := by
      by_cases g1 : a = d + k
      · have : ¬ i ≤ n - 1 := fun q => g ⟨g1, by omega⟩
        simp [this]
      · simp [g1]
    dsimp only
    rw [hb]
