/-! ===== THE WORLD GROWS: rows of rows ===== -/
def gw_rows (S : fw_S) (N n : Nat) : fw_S := (S.1, S.2.1, fun a b => if a = N ∧ b < n then some (N + 1 + b) else S.2.2 a b)
def gadm (ad : Nat → Nat) (N q : Nat) (r : Nat → Nat) : Nat → Nat := fun k => if k < N then ad k else if k = N then q else r (k - (N + 1))
theorem gadm_lt {ad r : Nat → Nat} {N q k : Nat} (h : k < N) : gadm ad N q r k = ad k := if_pos h
theorem gadm_at {ad r : Nat → Nat} {N q : Nat} : gadm ad N q r N = q := by
  unfold gadm
  rw [if_neg (Nat.lt_irrefl _), if_pos rfl]
theorem gadm_gt {ad r : Nat → Nat} {N q i : Nat} : gadm ad N q r (N + 1 + i) = r i := by
  unfold gadm
  rw [if_neg (by omega), if_neg (by omega), Nat.add_sub_cancel_left]
theorem gw_rows_ne {S : fw_S} {N n k : Nat} (h : k ≠ N) : (gw_rows S N n).2.2 k = S.2.2 k := funext fun b => if_neg (fun q => h q.1)
theorem gw_pl {n : Nat} {r : Nat → Nat} {f : Nat → va_E} {e : va_E} : va_pl ([] ++ (List.range n).map r) (vr_up f ((List.range n).map r) e) = (List.range n).map (fun i => (r i, e)) := by
  unfold va_pl
  rw [List.nil_append, List.map_map]
  refine List.map_congr_left fun i hi => ?_
  show (r i, vr_up f ((List.range n).map r) e (r i)) = (r i, e)
  rw [vr_up_in (List.mem_map.mpr ⟨i, hi, rfl⟩)]
theorem gw_mrow {tc : Nat → ClassId} {ad : Nat → Nat} {kd : Nat → Nat × Nat} {N n q w zt zr : Nat} {r : Nat → Nat} {S : fw_S} {e : va_E} (hz : zt = 3 ∧ zr = 0 ∨ zt = 4 ∧ zr = 1) (hc : gw_cl S N) (hd : ∀ k, N ≤ k → gw_df S k) (hk : kd N = (zt, n)) (hr : ∀ i, i < n → kd (N + 1 + i) = (zr, w))
    (he : ∀ k, N < k → fw_e tc (gadm ad N q r) (zr, w) (gw_rows S N n) k = e) :
    (fw_w tc ad kd N S ++ [(q, .inl (tc zt, n, .inr (.inr (.inr (.inr (fun i => if i < n then some (r i) else none))))))]) ++ (List.range n).map (fun i => (r i, e)) = fw_w tc (gadm ad N q r) kd (N + 1 + n) (gw_rows S N n) := by
  unfold fw_w
  rw [List.range_add, List.map_append, List.range_succ, List.map_append, List.map_map]
  congr 1
  · congr 1
    · refine List.map_congr_left fun k hk0 => ?_
      have hk0 := List.mem_range.mp hk0
      rw [gadm_lt hk0, fw_e_off (S' := gw_rows S N n) (S := S) rfl rfl (gw_rows_ne (by omega)), fw_e_ad (ad := ad) (fun j v hv => gadm_lt (hc k hk0 j v hv))]
    · show [_] = [(gadm ad N q r N, fw_e tc (gadm ad N q r) (kd N) (gw_rows S N n) N)]
      rw [gadm_at, hk]
      have hf : (fun i => if i < n then some (r i) else none) = fun j => ((gw_rows S N n).2.2 N j).map (gadm ad N q r) := funext fun j => by
        show _ = (if N = N ∧ j < n then some (N + 1 + j) else S.2.2 N j).map (gadm ad N q r)
        by_cases hj : j < n
        · rw [if_pos hj, if_pos ⟨rfl, hj⟩]
          show some (r j) = some (gadm ad N q r (N + 1 + j))
          rw [gadm_gt]
        · rw [if_neg hj, if_neg (fun z => hj z.2), (hd N (Nat.le_refl _)).2.2 j]
          rfl
      rcases hz with ⟨rfl, rfl⟩ | ⟨rfl, rfl⟩
      · rw [hf]; rfl
      · rw [hf]; rfl
  · refine List.map_congr_left fun i hi => ?_
    have hi := List.mem_range.mp hi
    show (r i, e) = (gadm ad N q r (N + 1 + i), fw_e tc (gadm ad N q r) (kd (N + 1 + i)) (gw_rows S N n) (N + 1 + i))
    rw [gadm_gt, hr i hi, he _ (by omega)]
section GM
variable {p : Program} {l : Launch} {e : Env} {R : Room} {s : State} {m : MethodId} {args : Array Value} {below : List Frame} {meth : Method} {c : Code} {Q : State → Prop}
variable {D : va_G} {tc : Nat → ClassId} {ad : Nat → Nat} {kd : Nat → Nat × Nat} {N nL : Nat} {A : Nat → Prop} {own : String} {cc : ByteArray} {st : Nat → Nat}
variable {pc n : Nat} {lv : List (Nat × Value)} {rest : List Value} {S : fw_S} {K : Nat} {n0 : Int32}
theorem gw_mna {index k w : Nat} {a0 b0 : Int32} (C0 : fw_C p s m args meth c D tc A own cc nL) (hov : va_AOA .int s) (hc : gw_cl S N) (hd : ∀ k, N ≤ k → gw_df S k) (hkd : kd N = (3, k)) (hkr : ∀ i, i < k → kd (N + 1 + i) = (0, w)) (ha : ¬ a0 < 0 ∧ a0.toNatClampNeg = k) (hb : ¬ b0 < 0 ∧ b0.toNatClampNeg = w) (hsz : k < 1000000 ∧ w < 1000000)
    (w1 : Cond.classLink own index ("[" ++ (FieldType.array .int).toString) ∈ fw_AW) (w2 : Cond.arrayClass .int ∈ fw_AW) (hr : n + (1 + k + (k + k * w) / 6 + 1) ≤ R.cells ∧ 6 * (n + (1 + k + (k + k * w) / 6 + 1)) ≤ R.slots) (hdg : decode cc pc = .ok (.multianewarray index 2, 4))
    (kk : ∀ q r, fw_W p l e R s m args below meth c Q D tc (gadm ad N q r) kd (N + 1 + k) nL A (pc + 4) lv (.ref q :: rest) (gw_rows S N k) (n + (1 + k + (k + k * w) / 6 + 1))) : fw_W p l e R s m args below meth c Q D tc ad kd N nL A pc lv (.int b0 :: .int a0 :: rest) S n := by
  intro H locs ls cells slots h1 h2 hP hD hS hl
  have hts := C0.2.2.2.2.1
  have hK := C0.2.2.2.2.2.1
  have ecy : s.vm.findClass (FieldType.array .int).toString = some (tc 0) := (hK.2 0 (tc 0, .int) rfl).2
  have hm : k * w = k * w := rfl
  generalize hkw : k * w = kw at hr kk
  refine va_mna (X := fw_w tc ad kd N S) (L := []) (f := fun _ => .inr (0, [])) (ty := .int) (cy := tc 0) (N' := k) (K' := w) (z := (w, .inl (fun _ => 0))) C0.1 C0.2.1 C0.2.2.2.1 (hts _ w1) hov (hts _ w2) ecy hK
    (by rw [show va_pl [] (fun _ => (.inr (0, []) : va_E)) = [] from rfl, List.append_nil]; exact hP) (by rw [show va_pl [] (fun _ => (.inr (0, []) : va_E)) = [] from rfl, List.append_nil]; exact hD) hS C0.2.2.2.2.2.2.2.1 ha.1 hb.1 ha.2 hb.2 (by omega) (by show w * 4 ≤ _; omega) (by omega) rfl rfl (by omega) (by rw [hkw]; omega)
    (fun c => by show ({ cls := c, slots := Array.replicate w (.int 0), vm := .none } : Cell) = _; rw [arrV_new]; rfl) hdg (fun q r cA H1 h3 h4 hK1 hP1 hD1 hS1 => ?_)
  have hcA : cA = tc 3 := by
    have g1 := (hK.2 3 (tc 3, .array .int) rfl).2
    have g2 := (hK1.2 6 (cA, .array .int) rfl).2
    exact Option.some.inj (g2.symm.trans g1)
  have he : ∀ x, N < x → fw_e tc (gadm ad N q r) (0, w) (gw_rows S N k) x = .inl (tc 0, w, .inl (fun _ => 0)) := fun x hx => by
    show (Sum.inl (tc 0, w, .inl (S.1 x)) : va_E) = _
    rw [show S.1 x = fun _ => 0 from funext (hd x (Nat.le_of_lt hx)).1]
  rw [hcA, gw_pl, gw_mrow (zt := 3) (zr := 0) (Or.inl ⟨rfl, rfl⟩) hc hd hkd hkr he] at hP1 hD1
  exact kk q r H1 locs ls _ _ (by omega) (by rw [hkw]; omega) hP1 hD1 hS1 hl
theorem gw_mnl {index k w : Nat} {a0 b0 : Int32} (C0 : fw_C p s m args meth c D tc A own cc nL) (hov : va_AOA .long s) (hc : gw_cl S N) (hd : ∀ k, N ≤ k → gw_df S k) (hkd : kd N = (4, k)) (hkr : ∀ i, i < k → kd (N + 1 + i) = (1, w)) (ha : ¬ a0 < 0 ∧ a0.toNatClampNeg = k) (hb : ¬ b0 < 0 ∧ b0.toNatClampNeg = w) (hsz : k < 1000000 ∧ w < 1000000)
    (w1 : Cond.classLink own index ("[" ++ (FieldType.array .long).toString) ∈ fw_AW) (w2 : Cond.arrayClass .long ∈ fw_AW) (hr : n + (1 + k + (k + k * w) / 6 + 1) ≤ R.cells ∧ 6 * (n + (1 + k + (k + k * w) / 6 + 1)) ≤ R.slots) (hdg : decode cc pc = .ok (.multianewarray index 2, 4))
    (kk : ∀ q r, fw_W p l e R s m args below meth c Q D tc (gadm ad N q r) kd (N + 1 + k) nL A (pc + 4) lv (.ref q :: rest) (gw_rows S N k) (n + (1 + k + (k + k * w) / 6 + 1))) : fw_W p l e R s m args below meth c Q D tc ad kd N nL A pc lv (.int b0 :: .int a0 :: rest) S n := by
  intro H locs ls cells slots h1 h2 hP hD hS hl
  have hts := C0.2.2.2.2.1
  have hK := C0.2.2.2.2.2.1
  have ecy : s.vm.findClass (FieldType.array .long).toString = some (tc 1) := (hK.2 1 (tc 1, .long) rfl).2
  generalize hkw : k * w = kw at hr kk
  refine va_mna (X := fw_w tc ad kd N S) (L := []) (f := fun _ => .inr (0, [])) (ty := .long) (cy := tc 1) (N' := k) (K' := w) (z := (w, .inr (.inl (fun _ => 0)))) C0.1 C0.2.1 C0.2.2.2.1 (hts _ w1) hov (hts _ w2) ecy hK
    (by rw [show va_pl [] (fun _ => (.inr (0, []) : va_E)) = [] from rfl, List.append_nil]; exact hP) (by rw [show va_pl [] (fun _ => (.inr (0, []) : va_E)) = [] from rfl, List.append_nil]; exact hD) hS C0.2.2.2.2.2.2.2.1 ha.1 hb.1 ha.2 hb.2 (by omega) (by show w * 8 ≤ _; omega) (by omega) rfl rfl (by omega) (by rw [hkw]; omega)
    (fun c => by show ({ cls := c, slots := Array.replicate w (.long 0), vm := .none } : Cell) = _; rw [arrV_new]; rfl) hdg (fun q r cA H1 h3 h4 hK1 hP1 hD1 hS1 => ?_)
  have hcA : cA = tc 4 := by
    have g1 := (hK.2 4 (tc 4, .array .long) rfl).2
    have g2 := (hK1.2 6 (cA, .array .long) rfl).2
    exact Option.some.inj (g2.symm.trans g1)
  have he : ∀ x, N < x → fw_e tc (gadm ad N q r) (1, w) (gw_rows S N k) x = .inl (tc 1, w, .inr (.inl (fun _ => 0))) := fun x hx => by
    show (Sum.inl (tc 1, w, .inr (.inl (S.2.1 x))) : va_E) = _
    rw [show S.2.1 x = fun _ => 0 from funext (hd x (Nat.le_of_lt hx)).2.1]
  rw [hcA, gw_pl, gw_mrow (zt := 4) (zr := 1) (Or.inr ⟨rfl, rfl⟩) hc hd hkd hkr he] at hP1 hD1
  exact kk q r H1 locs ls _ _ (by omega) (by rw [hkw]; omega) hP1 hD1 hS1 hl
end GM
