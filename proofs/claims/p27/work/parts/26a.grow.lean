/-! ===== THE WORLD GROWS: a new cell ===== -/
/-- references of the first N cells stay among them -/
def gw_cl (S : fw_S) (N : Nat) : Prop := ∀ k, k < N → ∀ j v, S.2.2 k j = some v → v < N
/-- what stands at cells that aren't made yet: nothing -/
def gw_df (S : fw_S) (k : Nat) : Prop := (∀ j, S.1 k j = 0) ∧ (∀ j, S.2.1 k j = 0) ∧ ∀ j, S.2.2 k j = none
def gad (ad : Nat → Nat) (N q : Nat) : Nat → Nat := fun k => if k = N then q else ad k
theorem gad_at {ad : Nat → Nat} {N q : Nat} : gad ad N q N = q := if_pos rfl
theorem gad_lt {ad : Nat → Nat} {N q k : Nat} (h : k < N) : gad ad N q k = ad k := if_neg (by omega)
theorem fw_v_ad {ad ad' : Nat → Nat} {S : fw_S} {k j t : Nat} (h : ∀ v, S.2.2 k j = some v → ad' v = ad v) : fw_v ad' S k j t = fw_v ad S k j t := by
  match t with
  | 0 => rfl
  | 1 => rfl
  | t + 2 =>
    show va_rf ((S.2.2 k j).map ad') = va_rf ((S.2.2 k j).map ad)
    cases hs : S.2.2 k j with
    | none => rfl
    | some v => show va_rf (some (ad' v)) = va_rf (some (ad v)); rw [h v hs]
theorem fw_e_ad {tc : Nat → ClassId} {ad ad' : Nat → Nat} {q : Nat × Nat} {S : fw_S} {k : Nat} (h : ∀ j v, S.2.2 k j = some v → ad' v = ad v) : fw_e tc ad' q S k = fw_e tc ad q S k := by
  have hm : (fun j => (S.2.2 k j).map ad') = fun j => (S.2.2 k j).map ad := funext fun j => by
    cases hs : S.2.2 k j with
    | none => rfl
    | some v => show some (ad' v) = some (ad v); rw [h j v hs]
  obtain ⟨t, n⟩ := q
  match t with
  | 0 => rfl
  | 1 => rfl
  | 2 => rfl
  | 3 => show (Sum.inl (tc 3, n, _) : va_E) = _; rw [hm]; rfl
  | 4 => show (Sum.inl (tc 4, n, _) : va_E) = _; rw [hm]; rfl
  | 5 => show (Sum.inl (tc 5, n, _) : va_E) = _; rw [hm]; rfl
  | t + 6 =>
    show (Sum.inr (t, _) : va_E) = Sum.inr (t, _)
    refine congrArg (fun z => (Sum.inr (t, z) : va_E)) (List.map_congr_left fun j _ => fw_v_ad (h j))
theorem fw_w_grow {tc : Nat → ClassId} {ad : Nat → Nat} {kd : Nat → Nat × Nat} {N q : Nat} {S : fw_S} (hc : gw_cl S N) : fw_w tc ad kd N S ++ [(q, fw_e tc (gad ad N q) (kd N) S N)] = fw_w tc (gad ad N q) kd (N + 1) S := by
  unfold fw_w
  rw [List.range_succ, List.map_append]
  congr 1
  · refine List.map_congr_left fun k hk => ?_
    have hk := List.mem_range.mp hk
    rw [gad_lt hk, fw_e_ad (ad := ad) (fun j v hv => gad_lt (hc k hk j v hv))]
  · show [_] = [(gad ad N q N, _)]
    rw [gad_at]
section GW
variable {p : Program} {l : Launch} {e : Env} {R : Room} {s : State} {m : MethodId} {args : Array Value} {below : List Frame} {meth : Method} {c : Code} {Q : State → Prop}
variable {D : va_G} {tc : Nat → ClassId} {ad : Nat → Nat} {kd : Nat → Nat × Nat} {N nL : Nat} {A : Nat → Prop} {own : String} {cc : ByteArray} {st : Nat → Nat}
variable {pc n : Nat} {lv : List (Nat × Value)} {rest : List Value} {S : fw_S} {K : Nat} {n0 : Int32}
theorem gw_newa (C0 : fw_C p s m args meth c D tc A own cc nL) (hc : gw_cl S N) (hd : gw_df S N) (hkd : kd N = (0, K)) (hn : ¬ n0 < 0) (hN : n0.toNatClampNeg = K) (hb : K * 4 ≤ 536870912) (harr : Cond.arrayClass .int ∈ fw_AW) (hr : n + (1 + K / 6) ≤ R.cells ∧ 6 * (n + (1 + K / 6)) ≤ R.slots) (hdg : decode cc pc = .ok (.newarray .int, 2))
    (kk : ∀ q, fw_W p l e R s m args below meth c Q D tc (gad ad N q) kd (N + 1) nL A (pc + 2) lv (.ref q :: rest) S (n + (1 + K / 6))) : fw_W p l e R s m args below meth c Q D tc ad kd N nL A pc lv (.int n0 :: rest) S n := by
  intro H locs ls cells slots h1 h2 hP hD hS hl
  refine va_newa (ws := fw_w tc ad kd N S) (a0 := (K, .inl (fun _ => 0))) (atype := .int) (ty := .int) C0.1 C0.2.1 (C0.2.2.2.2.1 _ harr) rfl C0.2.2.2.2.2.1 hP hD hS C0.2.2.2.2.2.2.2.1 (fun _ => rfl) hn hN hb (by omega) (by omega) hdg (fun q cA H1 hK1 hP1 hD1 hS1 => ?_)
  have hcA : cA = tc 0 := by
    have g1 := (C0.2.2.2.2.2.1.2 0 (tc 0, .int) rfl).2
    have g2 := (hK1.2 6 (cA, .int) rfl).2
    exact Option.some.inj (g2.symm.trans g1)
  have he : ((q, .inl (cA, K, .inl (fun _ => 0))) : Nat × va_E) = (q, fw_e tc (gad ad N q) (kd N) S N) := by
    rw [hkd, hcA]
    show _ = (q, (Sum.inl (tc 0, K, .inl (S.1 N)) : va_E))
    rw [show S.1 N = fun _ => 0 from funext hd.1]
  rw [he, fw_w_grow hc] at hP1 hD1
  exact kk q H1 locs ls (cells + 1) (slots + K) (by omega) (by omega) hP1 hD1 hS1 hl
theorem gw_newz (C0 : fw_C p s m args meth c D tc A own cc nL) (hc : gw_cl S N) (hd : gw_df S N) (hkd : kd N = (2, K)) (hn : ¬ n0 < 0) (hN : n0.toNatClampNeg = K) (hb : K * 4 ≤ 536870912) (harr : Cond.arrayClass .boolean ∈ fw_AW) (hr : n + (1 + K / 6) ≤ R.cells ∧ 6 * (n + (1 + K / 6)) ≤ R.slots) (hdg : decode cc pc = .ok (.newarray .boolean, 2))
    (kk : ∀ q, fw_W p l e R s m args below meth c Q D tc (gad ad N q) kd (N + 1) nL A (pc + 2) lv (.ref q :: rest) S (n + (1 + K / 6))) : fw_W p l e R s m args below meth c Q D tc ad kd N nL A pc lv (.int n0 :: rest) S n := by
  intro H locs ls cells slots h1 h2 hP hD hS hl
  refine va_newa (ws := fw_w tc ad kd N S) (a0 := (K, .inl (fun _ => 0))) (atype := .boolean) (ty := .boolean) C0.1 C0.2.1 (C0.2.2.2.2.1 _ harr) rfl C0.2.2.2.2.2.1 hP hD hS C0.2.2.2.2.2.2.2.1 (fun _ => rfl) hn hN (by show K * 1 ≤ _; omega) (by omega) (by omega) hdg (fun q cA H1 hK1 hP1 hD1 hS1 => ?_)
  have hcA : cA = tc 2 := by
    have g1 := (C0.2.2.2.2.2.1.2 2 (tc 2, .boolean) rfl).2
    have g2 := (hK1.2 6 (cA, .boolean) rfl).2
    exact Option.some.inj (g2.symm.trans g1)
  have he : ((q, .inl (cA, K, .inl (fun _ => 0))) : Nat × va_E) = (q, fw_e tc (gad ad N q) (kd N) S N) := by
    rw [hkd, hcA]
    show _ = (q, (Sum.inl (tc 2, K, .inl (S.1 N)) : va_E))
    rw [show S.1 N = fun _ => 0 from funext hd.1]
  rw [he, fw_w_grow hc] at hP1 hD1
  exact kk q H1 locs ls (cells + 1) (slots + K) (by omega) (by omega) hP1 hD1 hS1 hl
theorem gw_newl (C0 : fw_C p s m args meth c D tc A own cc nL) (hc : gw_cl S N) (hd : gw_df S N) (hkd : kd N = (1, K)) (hn : ¬ n0 < 0) (hN : n0.toNatClampNeg = K) (hb : K * 8 ≤ 536870912) (harr : Cond.arrayClass .long ∈ fw_AW) (hr : n + (1 + K / 6) ≤ R.cells ∧ 6 * (n + (1 + K / 6)) ≤ R.slots) (hdg : decode cc pc = .ok (.newarray .long, 2))
    (kk : ∀ q, fw_W p l e R s m args below meth c Q D tc (gad ad N q) kd (N + 1) nL A (pc + 2) lv (.ref q :: rest) S (n + (1 + K / 6))) : fw_W p l e R s m args below meth c Q D tc ad kd N nL A pc lv (.int n0 :: rest) S n := by
  intro H locs ls cells slots h1 h2 hP hD hS hl
  refine va_newa (ws := fw_w tc ad kd N S) (a0 := (K, .inr (.inl (fun _ => 0)))) (atype := .long) (ty := .long) C0.1 C0.2.1 (C0.2.2.2.2.1 _ harr) rfl C0.2.2.2.2.2.1 hP hD hS C0.2.2.2.2.2.2.2.1 (fun _ => rfl) hn hN hb (by omega) (by omega) hdg (fun q cA H1 hK1 hP1 hD1 hS1 => ?_)
  have hcA : cA = tc 1 := by
    have g1 := (C0.2.2.2.2.2.1.2 1 (tc 1, .long) rfl).2
    have g2 := (hK1.2 6 (cA, .long) rfl).2
    exact Option.some.inj (g2.symm.trans g1)
  have he : ((q, .inl (cA, K, .inr (.inl (fun _ => 0)))) : Nat × va_E) = (q, fw_e tc (gad ad N q) (kd N) S N) := by
    rw [hkd, hcA]
    show _ = (q, (Sum.inl (tc 1, K, .inr (.inl (S.2.1 N))) : va_E))
    rw [show S.2.1 N = fun _ => 0 from funext hd.2.1]
  rw [he, fw_w_grow hc] at hP1 hD1
  exact kk q H1 locs ls (cells + 1) (slots + K) (by omega) (by omega) hP1 hD1 hS1 hl
theorem gw_dv {ci j : Nat} {t : FieldType} (hd : gw_df S N) (ht : fw_ty ci j = t) : fw_v ad S N j (fw_fk (fw_ty ci j)) = (match fw_fk t with | 0 => .int 0 | 1 => .long 0 | _ => .null) := by
  rw [ht]
  cases hf : fw_fk t with
  | zero => show Value.int (S.1 N j) = _; rw [hd.1 j]; rfl
  | succ k =>
    cases k with
    | zero => show Value.long (S.2.1 N j) = _; rw [hd.2.1 j]; rfl
    | succ k => show va_rf ((S.2.2 N j).map ad) = _; rw [hd.2.2 j]; rfl
theorem gw_new {oc ci index n1 : Nat} {C : String} {T : u_T} (C0 : fw_C p s m args meth c D tc A own cc nL) (hc : gw_cl S N) (hd : gw_df S N) (hcl : vwCl[ci]? = some (C, T, n1)) (hkd : kd N = (ci + 6, n1)) (hdv : ∀ j, j < n1 → defaultValue (fw_ty ci j) = (match fw_fk (fw_ty ci j) with | 0 => .int 0 | 1 => .long 0 | _ => .null))
    (w1 : Cond.classLink own index C ∈ fw_AW) (w2 : Cond.instantiable C n1 ∈ fw_AW) (w3 : Cond.initialized C ∈ fw_AW) (hr : n + (1 + n1 / 6) ≤ R.cells ∧ 6 * (n + (1 + n1 / 6)) ≤ R.slots) (hdg : decode cc pc = .ok (.new index, 3))
    (kk : ∀ q, fw_W p l e R s m args below meth c Q D tc (gad ad N q) kd (N + 1) nL A (pc + 3) lv (.ref q :: rest) S (n + (1 + n1 / 6))) : fw_W p l e R s m args below meth c Q D tc ad kd N nL A pc lv rest S n := by
  intro H locs ls cells slots h1 h2 hP hD hS hl
  have hts := C0.2.2.2.2.1
  refine va_new (ws := fw_w tc ad kd N S) (fs := (List.range n1).map (fun j => fw_v ad S N j (fw_fk (fw_ty ci j)))) C0.1 C0.2.1 hts (cl_ws hcl) (fw_ty ci) (cl_ty hcl).1 C0.2.2.2.1 (hts _ w1) (hts _ w2) (hts _ w3) C0.2.2.2.2.2.1 hP hD hS C0.2.2.2.2.2.2.2.1 hcl (fun j hj => ?_) (by omega) (by show slots + n1 ≤ R.slots; omega) hdg (fun q H1 hP1 hD1 hS1 => ?_)
  · replace hj : j < n1 := hj
    have e1 := fw_fld (ad := ad) (S := S) (k := N) (ci := ci) hj
    have e2 := gw_dv (ad := ad) (j := j) (ci := ci) hd rfl
    unfold vp_V
    rw [List.getD_eq_getElem?_getD, e1, hdv j hj, e2]
    rfl
  · have he : ((q, .inr (ci, (List.range n1).map (fun j => fw_v ad S N j (fw_fk (fw_ty ci j))))) : Nat × va_E) = (q, fw_e tc (gad ad N q) (kd N) S N) := by
      rw [fw_e_ad (ad := ad) (fun j v hv => by rw [hd.2.2 j] at hv; cases hv), hkd]
      rfl
    rw [he, fw_w_grow hc] at hP1 hD1
    exact kk q H1 locs ls (cells + 1) (slots + n1) (by omega) (by omega) hP1 hD1 hS1 hl
end GW
