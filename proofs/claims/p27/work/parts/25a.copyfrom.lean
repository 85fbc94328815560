/-! ===== images: what copyFrom copies, from the town at a to the town at b ===== -/
/-- regions: kind (0 ints, 1 longs), cells from and to (behind), places from and to (behind) -/
abbrev cq_T : Type := Nat × Nat × Nat × Nat × Nat
abbrev cq_1 (r : cq_T) (z k i : Nat) : Prop := r.1 = z ∧ (r.2.1 ≤ k ∧ k < r.2.2.1) ∧ (r.2.2.2.1 ≤ i ∧ i < r.2.2.2.2)
abbrev cq_in (L : List cq_T) (z k i : Nat) : Prop := ∃ r ∈ L, cq_1 r z k i
abbrev cq_b (L : List cq_T) (b z k i : Nat) : Prop := (b + 1 ≤ k ∧ k ≤ b + 803) ∧ cq_in L z (k - b) i
def cpS (L : List cq_T) (a b : Nat) (S : fw_S) : fw_S :=
  (fun k i => if cq_b L b 0 k i then S.1 (k - b + a) i else S.1 k i, fun k i => if cq_b L b 1 k i then S.2.1 (k - b + a) i else S.2.1 k i, S.2.2)
theorem cq_in_app {L1 L2 : List cq_T} {z k i : Nat} : cq_in (L1 ++ L2) z k i ↔ cq_in L1 z k i ∨ cq_in L2 z k i := by
  constructor
  · rintro ⟨r, h, g⟩
    rcases List.mem_append.mp h with h | h
    · exact Or.inl ⟨r, h, g⟩
    · exact Or.inr ⟨r, h, g⟩
  · rintro (⟨r, h, g⟩ | ⟨r, h, g⟩)
    · exact ⟨r, List.mem_append_left _ h, g⟩
    · exact ⟨r, List.mem_append_right _ h, g⟩
theorem cq_in_1 {r : cq_T} {z k i : Nat} : cq_in [r] z k i ↔ cq_1 r z k i :=
  ⟨fun ⟨_, h, g⟩ => (List.mem_singleton.mp h) ▸ g, fun h => ⟨r, List.mem_singleton.mpr rfl, h⟩⟩
theorem cpS_key {T : Type} {L1 L2 : List cq_T} {a b z : Nat} (hab : a + 803 ≤ b ∨ b + 803 ≤ a) (f : Nat → Nat → T) (k i : Nat) :
    (if cq_b L2 b z k i then (if cq_b L1 b z (k - b + a) i then f (k - b + a - b + a) i else f (k - b + a) i) else (if cq_b L1 b z k i then f (k - b + a) i else f k i)) = if cq_b (L1 ++ L2) b z k i then f (k - b + a) i else f k i := by
  by_cases h1 : cq_b L1 b z k i
  · by_cases h2 : cq_b L2 b z k i
    · rw [if_pos h2, if_pos (show cq_b (L1 ++ L2) b z k i from ⟨h1.1, cq_in_app.mpr (Or.inl h1.2)⟩), if_neg]
      intro q
      have := q.1
      have := h1.1
      omega
    · rw [if_neg h2, if_pos h1, if_pos (show cq_b (L1 ++ L2) b z k i from ⟨h1.1, cq_in_app.mpr (Or.inl h1.2)⟩)]
  · by_cases h2 : cq_b L2 b z k i
    · rw [if_pos h2, if_pos (show cq_b (L1 ++ L2) b z k i from ⟨h2.1, cq_in_app.mpr (Or.inr h2.2)⟩), if_neg]
      intro q
      have := q.1
      have := h2.1
      omega
    · rw [if_neg h2, if_neg h1, if_neg]
      intro q
      rcases cq_in_app.mp q.2 with g | g
      · exact h1 ⟨q.1, g⟩
      · exact h2 ⟨q.1, g⟩
theorem cpS_app {L1 L2 : List cq_T} {a b : Nat} {S : fw_S} (hab : a + 803 ≤ b ∨ b + 803 ≤ a) : cpS L2 a b (cpS L1 a b S) = cpS (L1 ++ L2) a b S := by
  refine Prod.ext (funext fun k => funext fun i => cpS_key hab S.1 k i) (Prod.ext (funext fun k => funext fun i => cpS_key hab S.2.1 k i) rfl)
theorem cpS_ext {L1 L2 : List cq_T} {a b : Nat} {S : fw_S} (h : ∀ z k i, cq_in L1 z k i ↔ cq_in L2 z k i) : cpS L1 a b S = cpS L2 a b S := by
  have hb : ∀ z k i, cq_b L1 b z k i ↔ cq_b L2 b z k i := fun z k i => and_congr_right (fun _ => h z (k - b) i)
  unfold cpS
  simp only [hb]
theorem cpS_nil {r : cq_T} {a b : Nat} {S : fw_S} (h : r.2.2.1 ≤ r.2.1) : cpS [r] a b S = S := by
  have hn : ∀ z k i, ¬ cq_b [r] b z k i := fun z k i q => by
    have := (cq_in_1.mp q.2).2.1
    omega
  refine Prod.ext (funext fun k => funext fun i => if_neg (hn 0 k i)) (Prod.ext (funext fun k => funext fun i => if_neg (hn 1 k i)) rfl)
/-- what stands at the town that is copied stays -/
theorem cpS_a1 {L : List cq_T} {a b k i : Nat} {S : fw_S} (hab : a + 803 ≤ b ∨ b + 803 ≤ a) (h : 1 ≤ k ∧ k ≤ 803) : (cpS L a b S).1 (a + k) i = S.1 (a + k) i :=
  if_neg (fun q => by have := q.1; omega)
theorem cpS_a2 {L : List cq_T} {a b k i : Nat} {S : fw_S} (hab : a + 803 ≤ b ∨ b + 803 ≤ a) (h : 1 ≤ k ∧ k ≤ 803) : (cpS L a b S).2.1 (a + k) i = S.2.1 (a + k) i :=
  if_neg (fun q => by have := q.1; omega)
theorem cpS_i {a b k j : Nat} {S : fw_S} (h : 1 ≤ k ∧ k ≤ 803) : fw_i S (b + k) j (S.1 (a + k) j) = cpS [(0, k, k + 1, j, j + 1)] a b S := by
  refine Prod.ext (funext fun x => funext fun y => ?_) (Prod.ext (funext fun x => funext fun y => ?_) rfl)
  · show (if x = b + k ∧ y = j then S.1 (a + k) j else S.1 x y) = if cq_b [(0, k, k + 1, j, j + 1)] b 0 x y then S.1 (x - b + a) y else S.1 x y
    by_cases g : x = b + k ∧ y = j
    · rw [if_pos g, if_pos (show cq_b [(0, k, k + 1, j, j + 1)] b 0 x y from ⟨by omega, cq_in_1.mpr ⟨rfl, ⟨by show k ≤ _; omega, by show _ < k + 1; omega⟩, ⟨by show j ≤ _; omega, by show _ < j + 1; omega⟩⟩⟩), g.1, g.2, show b + k - b + a = a + k by omega]
    · rw [if_neg g, if_neg]
      intro q
      obtain ⟨-, ⟨q1, q2⟩, q3, q4⟩ := cq_in_1.mp q.2
      dsimp only at q1 q2 q3 q4
      have := q.1
      exact g ⟨by omega, by omega⟩
  · exact (if_neg (fun q => by have := (cq_in_1.mp q.2).1; cases this)).symm
theorem cpS_l {a b k j : Nat} {S : fw_S} (h : 1 ≤ k ∧ k ≤ 803) : fw_l S (b + k) j (S.2.1 (a + k) j) = cpS [(1, k, k + 1, j, j + 1)] a b S := by
  refine Prod.ext (funext fun x => funext fun y => ?_) (Prod.ext (funext fun x => funext fun y => ?_) rfl)
  · exact (if_neg (fun q => by have := (cq_in_1.mp q.2).1; cases this)).symm
  · show (if x = b + k ∧ y = j then S.2.1 (a + k) j else S.2.1 x y) = if cq_b [(1, k, k + 1, j, j + 1)] b 1 x y then S.2.1 (x - b + a) y else S.2.1 x y
    by_cases g : x = b + k ∧ y = j
    · rw [if_pos g, if_pos (show cq_b [(1, k, k + 1, j, j + 1)] b 1 x y from ⟨by omega, cq_in_1.mpr ⟨rfl, ⟨by show k ≤ _; omega, by show _ < k + 1; omega⟩, ⟨by show j ≤ _; omega, by show _ < j + 1; omega⟩⟩⟩), g.1, g.2, show b + k - b + a = a + k by omega]
    · rw [if_neg g, if_neg]
      intro q
      obtain ⟨-, ⟨q1, q2⟩, q3, q4⟩ := cq_in_1.mp q.2
      dsimp only at q1 q2 q3 q4
      have := q.1
      exact g ⟨by omega, by omega⟩
theorem cpS_cp {a b k n : Nat} {S : fw_S} (h : 1 ≤ k ∧ k ≤ 803) : fw_cp S (a + k) (b + k) n = cpS [(0, k, k + 1, 0, n)] a b S := by
  refine Prod.ext (funext fun x => funext fun y => ?_) (Prod.ext (funext fun x => funext fun y => ?_) rfl)
  · show (if x = b + k ∧ y < n then S.1 (a + k) y else S.1 x y) = if cq_b [(0, k, k + 1, 0, n)] b 0 x y then S.1 (x - b + a) y else S.1 x y
    by_cases g : x = b + k ∧ y < n
    · rw [if_pos g, if_pos (show cq_b [(0, k, k + 1, 0, n)] b 0 x y from ⟨by omega, cq_in_1.mpr ⟨rfl, ⟨by show k ≤ _; omega, by show _ < k + 1; omega⟩, ⟨Nat.zero_le _, g.2⟩⟩⟩), g.1, show b + k - b + a = a + k by omega]
    · rw [if_neg g, if_neg]
      intro q
      obtain ⟨-, ⟨q1, q2⟩, q3, q4⟩ := cq_in_1.mp q.2
      dsimp only at q1 q2 q3 q4
      have := q.1
      exact g ⟨by omega, by omega⟩
  · exact (if_neg (fun q => by have := (cq_in_1.mp q.2).1; cases this)).symm
theorem cpS_cpL {a b k n : Nat} {S : fw_S} (h : 1 ≤ k ∧ k ≤ 803) : fw_cpL S (a + k) (b + k) n = cpS [(1, k, k + 1, 0, n)] a b S := by
  refine Prod.ext (funext fun x => funext fun y => ?_) (Prod.ext (funext fun x => funext fun y => ?_) rfl)
  · exact (if_neg (fun q => by have := (cq_in_1.mp q.2).1; cases this)).symm
  · show (if x = b + k ∧ y < n then S.2.1 (a + k) y else S.2.1 x y) = if cq_b [(1, k, k + 1, 0, n)] b 1 x y then S.2.1 (x - b + a) y else S.2.1 x y
    by_cases g : x = b + k ∧ y < n
    · rw [if_pos g, if_pos (show cq_b [(1, k, k + 1, 0, n)] b 1 x y from ⟨by omega, cq_in_1.mpr ⟨rfl, ⟨by show k ≤ _; omega, by show _ < k + 1; omega⟩, ⟨Nat.zero_le _, g.2⟩⟩⟩), g.1, show b + k - b + a = a + k by omega]
    · rw [if_neg g, if_neg]
      intro q
      obtain ⟨-, ⟨q1, q2⟩, q3, q4⟩ := cq_in_1.mp q.2
      dsimp only at q1 q2 q3 q4
      have := q.1
      exact g ⟨by omega, by omega⟩
/-- a town stands at d: its cells are made as the town's, its references lead within it -/
def Im (kd : Nat → Nat × Nat) (N : Nat) (F : Nat → Nat → Option Nat) (d : Nat) : Prop :=
  d + 804 ≤ N ∧ (∀ k, 1 ≤ k ∧ k ≤ 803 → kd (d + k) = wd_kd k) ∧ ∀ q ∈ wd_rt, 1 ≤ q.1 ∧ q.1 ≤ 803 → ∀ j, q.2.1 ≤ j → j ≤ q.2.2.1 → F (d + q.1) j = some (d + (q.2.2.2 + (j - q.2.1)))
section IM
variable {kd : Nat → Nat × Nat} {N d k : Nat} {F : Nat → Nat → Option Nat}
theorem im_N (h : Im kd N F d) (hk : k ≤ 803) : d + k < N := by have := h.1; omega
theorem im_kd {z : Nat × Nat} (h : Im kd N F d) (hk : 1 ≤ k ∧ k ≤ 803) (hz : wd_kd k = z) : kd (d + k) = z := (h.2.1 k hk).trans hz
theorem im_rt {q : Nat × Nat × Nat × Nat} {j v : Nat} (h : Im kd N F d) (hq : q ∈ wd_rt) (h1 : 1 ≤ q.1 ∧ q.1 ≤ 803) (h2 : q.2.1 ≤ j ∧ j ≤ q.2.2.1) (hv : q.2.2.2 + (j - q.2.1) = v) : F (d + q.1) j = some (d + v) := by
  rw [← hv]
  exact h.2.2 q hq h1 j h2.1 h2.2
end IM
theorem i32n {n : Nat} (h : n < 2147483648) : (Int32.ofNat n).toInt = (n : Int) := by
  have h1 := nI_clamp h
  have h2 : ¬ (Int32.ofNat n).toInt < (0 : Int32).toInt := fun q => nI_pos h (Int32.lt_iff_toInt_lt.mpr q)
  have h3 : (Int32.ofNat n).toInt.toNat = n := h1
  have h4 : (0 : Int32).toInt = 0 := rfl
  omega
theorem mem_st1 {lv : List (Nat × Value)} {i : Nat} {v : Value} {q : Nat × Value} (h : q ∈ lv) (h1 : (!(q.1 == i) && !(q.1 + 1 == i && q.2.category == 2)) = true) : q ∈ fw_st1 lv i v :=
  List.mem_cons_of_mem _ (List.mem_filter.mpr ⟨h, h1⟩)
section CF
variable {p : Program} {l : Launch} {e : Env} {R : Room} {s : State} {m : MethodId} {args : Array Value} {below : List Frame} {meth : Method} {c : Code} {Q : State → Prop}
variable {D : va_G} {tc : Nat → ClassId} {ad : Nat → Nat} {kd : Nat → Nat × Nat} {N nL : Nat} {A : Nat → Prop} {own : String} {cc : ByteArray} {st : Nat → Nat}
variable {pc n : Nat} {lv : List (Nat × Value)} {rest : List Value} {S : fw_S} {a b : Nat}
theorem fw_getr (C0 : fw_C p s m args meth c D tc A own cc nL) {oc idx k v : Nat} {q : lk_F} (ho : own = lk_own oc) (hq : lkf_at oc idx = some q) (hk : k < N) (hkd : kd k = (q.2.1 + 6, cl_n q.2.1)) (hf : fw_fk (fw_ty q.2.1 q.2.2.1) = 2) (hv : S.2.2 k q.2.2.1 = some v) (hdg : decode cc pc = .ok (.getfield idx, 3))
    (kk : fw_W p l e R s m args below meth c Q D tc ad kd N nL A (pc + 3) lv (.ref (ad v) :: rest) S n) : fw_W p l e R s m args below meth c Q D tc ad kd N nL A pc lv (.ref (ad k) :: rest) S n := by
  obtain ⟨c1, h1, h2, h3⟩ := lkf_at_in hq
  have hn : cl_n q.2.1 = c1.2.2 := by unfold cl_n; rw [h1]
  rw [← ho] at h3
  refine fw_getfield (ad := ad) (rest := rest) (S := S) C0 hk (hkd.trans (by rw [hn])) h1 h2 (cl_ws h1) h3 hdg ?_
  have e0 : fw_v ad S k q.2.2.1 (fw_fk (fw_ty q.2.1 q.2.2.1)) = .ref (ad v) := by
    rw [hf]
    show va_rf ((S.2.2 k q.2.2.1).map ad) = _
    rw [hv]
    rfl
  rw [e0]
  exact kk
theorem fw_geti (C0 : fw_C p s m args meth c D tc A own cc nL) {oc idx k : Nat} {q : lk_F} (ho : own = lk_own oc) (hq : lkf_at oc idx = some q) (hk : k < N) (hkd : kd k = (q.2.1 + 6, cl_n q.2.1)) (hf : fw_fk (fw_ty q.2.1 q.2.2.1) = 0) (hdg : decode cc pc = .ok (.getfield idx, 3))
    (kk : fw_W p l e R s m args below meth c Q D tc ad kd N nL A (pc + 3) lv (.int (S.1 k q.2.2.1) :: rest) S n) : fw_W p l e R s m args below meth c Q D tc ad kd N nL A pc lv (.ref (ad k) :: rest) S n := by
  obtain ⟨c1, h1, h2, h3⟩ := lkf_at_in hq
  have hn : cl_n q.2.1 = c1.2.2 := by unfold cl_n; rw [h1]
  rw [← ho] at h3
  refine fw_getfield (ad := ad) (rest := rest) (S := S) C0 hk (hkd.trans (by rw [hn])) h1 h2 (cl_ws h1) h3 hdg ?_
  rw [hf]
  exact kk
theorem fw_getl (C0 : fw_C p s m args meth c D tc A own cc nL) {oc idx k : Nat} {q : lk_F} (ho : own = lk_own oc) (hq : lkf_at oc idx = some q) (hk : k < N) (hkd : kd k = (q.2.1 + 6, cl_n q.2.1)) (hf : fw_fk (fw_ty q.2.1 q.2.2.1) = 1) (hdg : decode cc pc = .ok (.getfield idx, 3))
    (kk : fw_W p l e R s m args below meth c Q D tc ad kd N nL A (pc + 3) lv (.long (S.2.1 k q.2.2.1) :: rest) S n) : fw_W p l e R s m args below meth c Q D tc ad kd N nL A pc lv (.ref (ad k) :: rest) S n := by
  obtain ⟨c1, h1, h2, h3⟩ := lkf_at_in hq
  have hn : cl_n q.2.1 = c1.2.2 := by unfold cl_n; rw [h1]
  rw [← ho] at h3
  refine fw_getfield (ad := ad) (rest := rest) (S := S) C0 hk (hkd.trans (by rw [hn])) h1 h2 (cl_ws h1) h3 hdg ?_
  rw [hf]
  exact kk
/-- the field of an image set to the town's (or the other way) -/
theorem fw_putx (C0 : fw_C p s m args meth c D tc A own cc nL) {oc idx k : Nat} {q : lk_F} {T : fw_S} {v : Value} (ho : own = lk_own oc) (hq : lkf_at oc idx = some q) (hk : k < N) (hkd : kd k = (q.2.1 + 6, cl_n q.2.1)) (hfin : q_fin oc idx = true)
    (hn : narrow (fw_ty q.2.1 q.2.2.1) v = v) (hft : fits (fw_ty q.2.1 q.2.2.1) v = true) (hv : fw_v ad T k q.2.2.1 (fw_fk (fw_ty q.2.1 q.2.2.1)) = v) (h8 : ∀ i, i ≠ q.2.2.1 → fw_v ad T k i (fw_fk (fw_ty q.2.1 i)) = fw_v ad S k i (fw_fk (fw_ty q.2.1 i))) (h9 : ∀ a, a ≠ k → fw_e tc ad (kd a) T a = fw_e tc ad (kd a) S a) (hdg : decode cc pc = .ok (.putfield idx, 3))
    (kk : fw_W p l e R s m args below meth c Q D tc ad kd N nL A (pc + 3) lv rest T n) : fw_W p l e R s m args below meth c Q D tc ad kd N nL A pc lv (v :: .ref (ad k) :: rest) S n := by
  obtain ⟨c1, h1, h2, h3⟩ := lkf_at_in hq
  have hc : cl_n q.2.1 = c1.2.2 := by unfold cl_n; rw [h1]
  rw [← ho] at h3
  have hf2 : (c1.2.1 q.2.2.1).2.2.2 = false := by
    have := hfin
    unfold q_fin at this
    rw [hq] at this
    dsimp only at this
    rw [h1] at this
    simpa using this
  exact fw_putfield (v := v) (S' := T) C0 hk (hkd.trans (by rw [hc])) h1 h2 (cl_ws h1) (cl_ty h1).1 (cl_ty h1).2 h3 hf2 hn hft hv h8 h9 hdg kk
theorem fw_puti (C0 : fw_C p s m args meth c D tc A own cc nL) (hab : a + 803 ≤ b ∨ b + 803 ≤ a) {oc idx k : Nat} {q : lk_F} (ho : own = lk_own oc) (hq : lkf_at oc idx = some q) (hk : b + k < N) (h1 : 1 ≤ k ∧ k ≤ 803) (hkd : kd (b + k) = (q.2.1 + 6, cl_n q.2.1)) (hfin : q_fin oc idx = true) (hty : fw_ty q.2.1 q.2.2.1 = .int) (hdg : decode cc pc = .ok (.putfield idx, 3))
    (kk : fw_W p l e R s m args below meth c Q D tc ad kd N nL A (pc + 3) lv rest (cpS [(0, k, k + 1, q.2.2.1, q.2.2.1 + 1)] a b S) n) : fw_W p l e R s m args below meth c Q D tc ad kd N nL A pc lv (.int (S.1 (a + k) q.2.2.1) :: .ref (ad (b + k)) :: rest) S n := by
  rw [← cpS_i h1] at kk
  exact fw_putx C0 ho hq hk hkd hfin (by rw [hty]; rfl) (by rw [hty]; rfl) (by rw [hty]; show Value.int _ = _; rw [fw_i_get]) (fun i hi => fw_v_i hi) (fun x hx => fw_e_off (fw_i_off hx) rfl rfl) hdg kk
theorem fw_putb (C0 : fw_C p s m args meth c D tc A own cc nL) (hab : a + 803 ≤ b ∨ b + 803 ≤ a) {oc idx k : Nat} {q : lk_F} (ho : own = lk_own oc) (hq : lkf_at oc idx = some q) (hk : b + k < N) (h1 : 1 ≤ k ∧ k ≤ 803) (hkd : kd (b + k) = (q.2.1 + 6, cl_n q.2.1)) (hfin : q_fin oc idx = true) (hty : fw_ty q.2.1 q.2.2.1 = .boolean) (hb : S.1 (a + k) q.2.2.1 = 0 ∨ S.1 (a + k) q.2.2.1 = 1) (hdg : decode cc pc = .ok (.putfield idx, 3))
    (kk : fw_W p l e R s m args below meth c Q D tc ad kd N nL A (pc + 3) lv rest (cpS [(0, k, k + 1, q.2.2.1, q.2.2.1 + 1)] a b S) n) : fw_W p l e R s m args below meth c Q D tc ad kd N nL A pc lv (.int (S.1 (a + k) q.2.2.1) :: .ref (ad (b + k)) :: rest) S n := by
  rw [← cpS_i h1] at kk
  exact fw_putx C0 ho hq hk hkd hfin (by rw [hty]; rcases hb with g | g <;> rw [g] <;> decide) (by rw [hty]; rcases hb with g | g <;> rw [g] <;> decide) (by rw [hty]; show Value.int _ = _; rw [fw_i_get]) (fun i hi => fw_v_i hi) (fun x hx => fw_e_off (fw_i_off hx) rfl rfl) hdg kk
theorem fw_putl (C0 : fw_C p s m args meth c D tc A own cc nL) (hab : a + 803 ≤ b ∨ b + 803 ≤ a) {oc idx k : Nat} {q : lk_F} (ho : own = lk_own oc) (hq : lkf_at oc idx = some q) (hk : b + k < N) (h1 : 1 ≤ k ∧ k ≤ 803) (hkd : kd (b + k) = (q.2.1 + 6, cl_n q.2.1)) (hfin : q_fin oc idx = true) (hty : fw_ty q.2.1 q.2.2.1 = .long) (hdg : decode cc pc = .ok (.putfield idx, 3))
    (kk : fw_W p l e R s m args below meth c Q D tc ad kd N nL A (pc + 3) lv rest (cpS [(1, k, k + 1, q.2.2.1, q.2.2.1 + 1)] a b S) n) : fw_W p l e R s m args below meth c Q D tc ad kd N nL A pc lv (.long (S.2.1 (a + k) q.2.2.1) :: .ref (ad (b + k)) :: rest) S n := by
  rw [← cpS_l h1] at kk
  exact fw_putx C0 ho hq hk hkd hfin (by rw [hty]; rfl) (by rw [hty]; rfl) (by rw [hty]; show Value.long _ = _; rw [fw_l_get]) (fun i hi => fw_v_l hi) (fun x hx => fw_e_off rfl (fw_l_off hx) rfl) hdg kk
/-- calls of methods that hand nothing back and are known exactly -/
theorem fw_cS (C0 : fw_C p s m args meth c D tc A own cc nL) (hSt : fw_St st A s s.heap) {oc idx fr lo : Nat} {q : lk_F} {y : mt_T} {T : fw_S} {av st0 : List Value} (ho : own = lk_own oc) (hq : lkm_at oc idx = some q) (hv : q.2.1 = 0 ∨ q.2.1 = 2) (hy : mt_at q.2.2.1 = some y)
    (hM : fw_Met l y.1 y.2.1 y.2.2.1 y.2.2.2.1 fr lo 0 D tc ad kd N st av S (fun o S' => o = .inl none ∧ S' = T)) (hlen : av.length = y.2.2.2.2.2.2.1) (hR : fw_R R y.2.2.1 fr lo n 0 []) (hst : st0 = av.reverse ++ []) (hdg : decode cc pc = .ok (.invokestatic idx, 3))
    (kk : fw_W p l e R s m args below meth c Q D tc ad kd N nL A (pc + 3) lv [] T n) : fw_W p l e R s m args below meth c Q D tc ad kd N nL A pc lv st0 S n := by
  obtain ⟨q1, q2⟩ := lkm_at_in hq
  have hmt := mt_at_ok hy
  simp only [mt_b, Bool.and_eq_true, decide_eq_true_eq] at hmt
  obtain ⟨⟨⟨⟨⟨⟨⟨m1, m2⟩, m3⟩, m4⟩, m5⟩, m6⟩, m7⟩, m8⟩ := hmt
  have wc := lk_code_in m1
  have wi := lk_chk_in m2
  unfold lkm_b at q2
  rw [q1] at q2
  rw [← ho] at q2
  have kr : ∀ (r : Option Value) (S' : fw_S), (.inl r = (.inl none : fw_O) ∧ S' = T) → fw_W p l e R s m args below meth c Q D tc ad kd N nL A (pc + 3) lv (r.toList ++ []) S' (n + 0) := by
    rintro r S' ⟨h1, h2⟩
    cases h1
    rw [h2]
    exact kk
  have kx : ∀ (E : String) (S' : fw_S), (.inr E = (.inl none : fw_O) ∧ S' = T) → fw_T p l e R s m args below meth c Q D tc ad kd N nL A pc lv [] S' (n + 0) E := by
    rintro E S' ⟨h1, h2⟩
    cases h1
  rcases hv with hv | hv
  · rw [hv] at q2
    rw [hy] at q2
    simp only [Bool.and_eq_true, decide_eq_true_eq] at q2
    rw [if_pos q2.1] at m8
    exact fw_callS C0 hSt hM ⟨m3, m4, by rw [m5, hlen]⟩ (lk_chk_in q2.2) (lk_chk_in m8) wi wc hR hst hdg kr kx
  · rw [hv] at q2
    rw [hy] at q2
    simp only [Bool.and_eq_true, decide_eq_true_eq] at q2
    rw [if_pos q2.1] at m8
    exact fw_callSN C0 hSt hM ⟨m3, m4, by rw [m5, hlen]⟩ (lk_at_in q2.2 rfl) (lk_chk_in m8) wi wc hR hst hdg kr kx
theorem fw_cV (C0 : fw_C p s m args meth c D tc A own cc nL) (hSt : fw_St st A s s.heap) {oc idx fr lo bb : Nat} {q : lk_F} {y : mt_T} {T : fw_S} {av st0 : List Value} (ho : own = lk_own oc) (hq : lkm_at oc idx = some q) (hv : q.2.1 = 1) (hy : mt_at q.2.2.1 = some y)
    (hM : fw_Met l y.1 y.2.1 y.2.2.1 y.2.2.2.1 fr lo 0 D tc ad kd N st (.ref (ad bb) :: av) S (fun o S' => o = .inl none ∧ S' = T)) (hb : bb < N) (hkd : kd bb = (y.2.2.2.2.1 + 6, cl_n y.2.2.2.2.1)) (hlen : av.length = y.2.2.2.2.2.2.1) (hR : fw_R R y.2.2.1 fr lo n 0 []) (hst : st0 = av.reverse ++ .ref (ad bb) :: []) (hdg : decode cc pc = .ok (.invokevirtual idx, 3))
    (kk : fw_W p l e R s m args below meth c Q D tc ad kd N nL A (pc + 3) lv [] T n) : fw_W p l e R s m args below meth c Q D tc ad kd N nL A pc lv st0 S n := by
  obtain ⟨q1, q2⟩ := lkm_at_in hq
  have hmt := mt_at_ok hy
  simp only [mt_b, Bool.and_eq_true, decide_eq_true_eq] at hmt
  obtain ⟨⟨⟨⟨⟨⟨⟨m1, m2⟩, m3⟩, m4⟩, m5⟩, m6⟩, m7⟩, m8⟩ := hmt
  have wc := lk_code_in m1
  have wi := lk_chk_in m2
  unfold lkm_b at q2
  rw [q1] at q2
  rw [← ho] at q2
  have kr : ∀ (r : Option Value) (S' : fw_S), (.inl r = (.inl none : fw_O) ∧ S' = T) → fw_W p l e R s m args below meth c Q D tc ad kd N nL A (pc + 3) lv (r.toList ++ []) S' (n + 0) := by
    rintro r S' ⟨h1, h2⟩
    cases h1
    rw [h2]
    exact kk
  have kx : ∀ (E : String) (S' : fw_S), (.inr E = (.inl none : fw_O) ∧ S' = T) → fw_T p l e R s m args below meth c Q D tc ad kd N nL A pc lv [] S' (n + 0) E := by
    rintro E S' ⟨h1, h2⟩
    cases h1
  rw [hv] at q2
  rw [hy] at q2
  simp only [Bool.and_eq_true, decide_eq_true_eq] at q2
  rw [if_neg (by rw [q2.1]; decide)] at m8
  simp only [Bool.and_eq_true, decide_eq_true_eq] at m8
  cases hc : vwCl[y.2.2.2.2.1]? with
  | none => rw [hc] at m8; simp at m8
  | some cl =>
    rw [hc] at m8
    have hcl : cl.1 = y.1.cls := by simpa using m8.2
    have hn : cl_n y.2.2.2.2.1 = cl.2.2 := by unfold cl_n; rw [hc]
    exact fw_callV (b := bb) (ci := y.2.2.2.2.1) (n0 := cl.2.2) (T := cl.2.1) (av := av) C0 hSt hM hb (hkd.trans (by rw [hn])) (by rw [hc, ← hcl]) ⟨m3, m4, by rw [m5, hlen]⟩ (lk_chk_in q2.2) (lk_chk_in m8.1.1) (lk_chk_in m8.1.2) wi wc hR hst hdg kr kx
theorem fw_cpRow (hab : a + 803 ≤ b ∨ b + 803 ≤ a) (ha : Im kd N S.2.2 a) (hb : Im kd N S.2.2 b) {k n : Nat} (h1 : 1 ≤ k ∧ k ≤ 803 ∧ n < 2147483648) (hk : wd_kd k = (0, n)) :
    fw_Met l ⟨"UtilityWorks", "copyRow", "([I[I)V"⟩ prog_1_method_128_code 2 none 2 100 0 D tc ad kd N st [.ref (ad (a + k)), .ref (ad (b + k))] S (fun o S' => o = .inl none ∧ S' = cpS [(0, k, k + 1, 0, n)] a b S) := by
  have h := fw_copyRow (l := l) (D := D) (tc := tc) (ad := ad) (kd := kd) (N := N) (st := st) (S := S) (im_N ha h1.2.1) (im_N hb h1.2.1) (im_kd ha ⟨h1.1, h1.2.1⟩ hk) (im_kd hb ⟨h1.1, h1.2.1⟩ hk) h1.2.2
  rw [cpS_cp ⟨h1.1, h1.2.1⟩] at h
  exact h
theorem fw_cpRowL (hab : a + 803 ≤ b ∨ b + 803 ≤ a) (ha : Im kd N S.2.2 a) (hb : Im kd N S.2.2 b) {k n : Nat} (h1 : 1 ≤ k ∧ k ≤ 803 ∧ n < 2147483648) (hk : wd_kd k = (1, n)) :
    fw_Met l ⟨"UtilityWorks", "copyLongs", "([J[J)V"⟩ prog_1_method_129_code 2 none 2 100 0 D tc ad kd N st [.ref (ad (a + k)), .ref (ad (b + k))] S (fun o S' => o = .inl none ∧ S' = cpS [(1, k, k + 1, 0, n)] a b S) := by
  have h := fw_copyLongs (l := l) (D := D) (tc := tc) (ad := ad) (kd := kd) (N := N) (st := st) (S := S) (im_N ha h1.2.1) (im_N hb h1.2.1) (im_kd ha ⟨h1.1, h1.2.1⟩ hk) (im_kd hb ⟨h1.1, h1.2.1⟩ hk) h1.2.2
  rw [cpS_cpL ⟨h1.1, h1.2.1⟩] at h
  exact h
theorem cq_grow {z r i w z1 k i1 : Nat} : cq_in ([(z, r, r + i, 0, w)] ++ [(z, r + i, r + i + 1, 0, w)]) z1 k i1 ↔ cq_in [(z, r, r + (i + 1), 0, w)] z1 k i1 := by
  rw [cq_in_app, cq_in_1, cq_in_1, cq_in_1]
  unfold cq_1
  dsimp only
  omega
theorem fw_cpTab (hab : a + 803 ≤ b ∨ b + 803 ≤ a) (ha : Im kd N S.2.2 a) (hb : Im kd N S.2.2 b) {k n r w : Nat} (h1 : (1 ≤ k ∧ k ≤ 803) ∧ (1 ≤ r ∧ r + n ≤ 804) ∧ n < 1000 ∧ w < 1000) (hk : wd_kd k = (3, n)) (hr : wd_span wd_kt r (r + n - 1) = some (0, w)) (hq : (k, 0, n - 1, r) ∈ wd_rt) :
    fw_Met l ⟨"UtilityWorks", "copyTable", "([[I[[I)V"⟩ prog_1_method_130_code 3 none 3 121 0 D tc ad kd N st [.ref (ad (a + k)), .ref (ad (b + k))] S (fun o S' => o = .inl none ∧ S' = cpS [(0, r, r + n, 0, w)] a b S) :=
  fw_ofW (by decide +kernel) (Nat.le_of_ble_eq_true rfl) (fun sz p e s m args below meth c C0 hSt hret hex hname => by
    have l0 : ((0 : Nat), Value.ref (ad (a + k))) ∈ lv_args 0 [.ref (ad (a + k)), .ref (ad (b + k))] := List.mem_cons_self
    have l1 : ((1 : Nat), Value.ref (ad (b + k))) ∈ lv_args 0 [.ref (ad (a + k)), .ref (ad (b + k))] := List.mem_cons_of_mem _ List.mem_cons_self
    have hrow : ∀ i, i < n → wd_kd (r + i) = (0, w) := fun i hi => wd_kd_span hr (by omega) (by omega)
    refine fw_iconst (n0 := 0) C0 (by decide +kernel) ?_
    refine fw_istore_n (i := 2) (k0 := 2) C0 rfl (by decide) (by decide +kernel) ?_
    have lp : ∀ t i, i + t = n → ∀ lv, ((0 : Nat), Value.ref (ad (a + k))) ∈ lv → ((1 : Nat), Value.ref (ad (b + k))) ∈ lv → ((2 : Nat), Value.int (Int32.ofNat i)) ∈ lv →
        fw_W p l e (fw_rm 3 121 0) s m args below meth c (vx_MQ below (fw_Q D tc ad kd N st (fw_Af ad N sz) (fun o S' => o = .inl none ∧ S' = cpS [(0, r, r + n, 0, w)] a b S)) (fw_X D tc ad kd N st (fw_Af ad N sz) (fun o S' => o = .inl none ∧ S' = cpS [(0, r, r + n, 0, w)] a b S)) args s 0 (6 * 0) (fw_Af ad N sz)) D tc ad kd N 3 (fw_Af ad N sz) 2 lv [] (cpS [(0, r, r + i, 0, w)] a b S) 0 := by
      intro t
      induction t with
      | zero =>
        intro i hi lv l0 l1 l2
        replace hi : i = n := hi
        refine fw_iload_n (i := 2) C0 l2 (by decide +kernel) ?_
        refine fw_aload_n (i := 0) C0 l0 (by decide +kernel) ?_
        refine fw_alen C0 (z := 3) (by decide) (im_N ha h1.1.2) (im_kd ha h1.1 hk) (by decide +kernel) ?_
        refine fw_icmp_ge (off := 24) (tgt := 29) C0 (by decide) (by decide +kernel) (fun g => ?_) (fun g => ?_)
        · have hin : i = n := by omega
          rw [hin]
          exact fw_vret C0 hSt hret (Nat.le_refl _) ⟨rfl, rfl⟩ (by decide +kernel)
        · exact absurd (Int32.le_iff_toInt_le.mpr (by rw [i32n (by omega), i32n (by omega)]; omega)) g
      | succ t ih =>
        intro i hi lv l0 l1 l2
        have hlt : i < n := by omega
        have hr1 : 1 ≤ r + i ∧ r + i ≤ 803 := by omega
        refine fw_iload_n (i := 2) C0 l2 (by decide +kernel) ?_
        refine fw_aload_n (i := 0) C0 l0 (by decide +kernel) ?_
        refine fw_alen C0 (z := 3) (by decide) (im_N ha h1.1.2) (im_kd ha h1.1 hk) (by decide +kernel) ?_
        refine fw_icmp_ge (off := 24) (tgt := 29) C0 (by decide) (by decide +kernel) (fun g => ?_) (fun g => ?_)
        · exfalso
          have g2 := Int32.le_iff_toInt_le.mp g
          rw [i32n (by omega), i32n (by omega)] at g2
          omega
        refine fw_iload_n (i := 2) C0 l2 (by decide +kernel) ?_
        refine fw_aload_n (i := 1) C0 l1 (by decide +kernel) ?_
        refine fw_alen C0 (z := 3) (by decide) (im_N hb h1.1.2) (im_kd hb h1.1 hk) (by decide +kernel) ?_
        refine fw_icmp_ge (off := 18) (tgt := 29) C0 (by decide) (by decide +kernel) (fun g => ?_) (fun g => ?_)
        · exfalso
          have g2 := Int32.le_iff_toInt_le.mp g
          rw [i32n (by omega), i32n (by omega)] at g2
          omega
        have hin : vp_in (Int32.ofNat i) n := by
          rintro (q | q)
          · have := Int32.lt_iff_toInt_lt.mp q
            rw [i32n (by omega), show (0 : Int32).toInt = 0 from rfl] at this
            omega
          · rw [cp_clamp (by omega)] at q
            omega
        have ea : va_rf (((cpS [(0, r, r + i, 0, w)] a b S).2.2 (a + k) (Int32.ofNat i).toNatClampNeg).map ad) = .ref (ad (a + (r + i))) := by
          rw [cp_clamp (by omega)]
          have := im_rt (v := r + i) (j := i) ha hq h1.1 ⟨Nat.zero_le _, by show i ≤ n - 1; omega⟩ rfl
          show va_rf ((S.2.2 (a + k) i).map ad) = _
          rw [this]
          rfl
        have eb : va_rf (((cpS [(0, r, r + i, 0, w)] a b S).2.2 (b + k) (Int32.ofNat i).toNatClampNeg).map ad) = .ref (ad (b + (r + i))) := by
          rw [cp_clamp (by omega)]
          have := im_rt (v := r + i) (j := i) hb hq h1.1 ⟨Nat.zero_le _, by show i ≤ n - 1; omega⟩ rfl
          show va_rf ((S.2.2 (b + k) i).map ad) = _
          rw [this]
          rfl
        refine fw_aload_n (i := 0) C0 l0 (by decide +kernel) ?_
        refine fw_iload_n (i := 2) C0 l2 (by decide +kernel) ?_
        refine fw_aaload C0 (z := 3) (by decide) (im_N ha h1.1.2) (im_kd ha h1.1 hk) hin (by decide +kernel) ?_
        rw [ea]
        refine fw_aload_n (i := 1) C0 l1 (by decide +kernel) ?_
        refine fw_iload_n (i := 2) C0 l2 (by decide +kernel) ?_
        refine fw_aaload C0 (z := 3) (by decide) (im_N hb h1.1.2) (im_kd hb h1.1 hk) hin (by decide +kernel) ?_
        rw [eb]
        refine fw_cS C0 hSt (oc := 11) (idx := 626) (q := (626, 0, 45, 27170)) (y := (⟨"UtilityWorks", "copyRow", "([I[I)V"⟩, prog_1_method_128_code, 2, none, 11, 0, 2, 24105, 24104, 0, 21001)) (av := [.ref (ad (a + (r + i))), .ref (ad (b + (r + i)))]) (fr := 2) (lo := 100) rfl rfl (by decide) rfl (fw_cpRow (S := cpS [(0, r, r + i, 0, w)] a b S) hab ha hb ⟨hr1.1, hr1.2, by omega⟩ (hrow i hlt)) rfl ⟨by decide, by decide, by decide, by decide, by decide⟩ rfl (by decide +kernel) ?_
        rw [cpS_app hab, cpS_ext (fun z k1 i1 => cq_grow)]
        refine fw_iinc (n0 := 1) C0 l2 (by decide) (by decide +kernel) ?_
        refine fw_goto (off := -24) (tgt := 2) C0 (by decide) (by decide +kernel) ?_
        refine ih (i + 1) (by omega) _ (mem_st1 l0 rfl) (mem_st1 l1 rfl) ?_
        have e1 : Int32.ofNat i + Int32.ofInt 1 = Int32.ofNat (i + 1) := by
          rw [Int32.ofNat_add]
          rfl
        rw [← e1]
        exact List.mem_cons_self
    have h0 := lp n 0 (Nat.zero_add n) (fw_st1 (lv_args 0 [.ref (ad (a + k)), .ref (ad (b + k))]) 2 (.int (Int32.ofInt 0))) (mem_st1 l0 rfl) (mem_st1 l1 rfl) (by rw [show Int32.ofNat 0 = Int32.ofInt 0 from rfl]; exact List.mem_cons_self)
    rw [cpS_nil (r := (0, r, r + 0, 0, w)) (Nat.le_refl _)] at h0
    exact h0)
theorem fw_cpTabL (hab : a + 803 ≤ b ∨ b + 803 ≤ a) (ha : Im kd N S.2.2 a) (hb : Im kd N S.2.2 b) {k n r w : Nat} (h1 : (1 ≤ k ∧ k ≤ 803) ∧ (1 ≤ r ∧ r + n ≤ 804) ∧ n < 1000 ∧ w < 1000) (hk : wd_kd k = (4, n)) (hr : wd_span wd_kt r (r + n - 1) = some (1, w)) (hq : (k, 0, n - 1, r) ∈ wd_rt) :
    fw_Met l ⟨"UtilityWorks", "copyLongTable", "([[J[[J)V"⟩ prog_1_method_131_code 3 none 3 121 0 D tc ad kd N st [.ref (ad (a + k)), .ref (ad (b + k))] S (fun o S' => o = .inl none ∧ S' = cpS [(1, r, r + n, 0, w)] a b S) :=
  fw_ofW (by decide +kernel) (Nat.le_of_ble_eq_true rfl) (fun sz p e s m args below meth c C0 hSt hret hex hname => by
    have l0 : ((0 : Nat), Value.ref (ad (a + k))) ∈ lv_args 0 [.ref (ad (a + k)), .ref (ad (b + k))] := List.mem_cons_self
    have l1 : ((1 : Nat), Value.ref (ad (b + k))) ∈ lv_args 0 [.ref (ad (a + k)), .ref (ad (b + k))] := List.mem_cons_of_mem _ List.mem_cons_self
    have hrow : ∀ i, i < n → wd_kd (r + i) = (1, w) := fun i hi => wd_kd_span hr (by omega) (by omega)
    refine fw_iconst (n0 := 0) C0 (by decide +kernel) ?_
    refine fw_istore_n (i := 2) (k0 := 2) C0 rfl (by decide) (by decide +kernel) ?_
    have lp : ∀ t i, i + t = n → ∀ lv, ((0 : Nat), Value.ref (ad (a + k))) ∈ lv → ((1 : Nat), Value.ref (ad (b + k))) ∈ lv → ((2 : Nat), Value.int (Int32.ofNat i)) ∈ lv →
        fw_W p l e (fw_rm 3 121 0) s m args below meth c (vx_MQ below (fw_Q D tc ad kd N st (fw_Af ad N sz) (fun o S' => o = .inl none ∧ S' = cpS [(1, r, r + n, 0, w)] a b S)) (fw_X D tc ad kd N st (fw_Af ad N sz) (fun o S' => o = .inl none ∧ S' = cpS [(1, r, r + n, 0, w)] a b S)) args s 0 (6 * 0) (fw_Af ad N sz)) D tc ad kd N 3 (fw_Af ad N sz) 2 lv [] (cpS [(1, r, r + i, 0, w)] a b S) 0 := by
      intro t
      induction t with
      | zero =>
        intro i hi lv l0 l1 l2
        replace hi : i = n := hi
        refine fw_iload_n (i := 2) C0 l2 (by decide +kernel) ?_
        refine fw_aload_n (i := 0) C0 l0 (by decide +kernel) ?_
        refine fw_alen C0 (z := 4) (by decide) (im_N ha h1.1.2) (im_kd ha h1.1 hk) (by decide +kernel) ?_
        refine fw_icmp_ge (off := 24) (tgt := 29) C0 (by decide) (by decide +kernel) (fun g => ?_) (fun g => ?_)
        · have hin : i = n := by omega
          rw [hin]
          exact fw_vret C0 hSt hret (Nat.le_refl _) ⟨rfl, rfl⟩ (by decide +kernel)
        · exact absurd (Int32.le_iff_toInt_le.mpr (by rw [i32n (by omega), i32n (by omega)]; omega)) g
      | succ t ih =>
        intro i hi lv l0 l1 l2
        have hlt : i < n := by omega
        have hr1 : 1 ≤ r + i ∧ r + i ≤ 803 := by omega
        refine fw_iload_n (i := 2) C0 l2 (by decide +kernel) ?_
        refine fw_aload_n (i := 0) C0 l0 (by decide +kernel) ?_
        refine fw_alen C0 (z := 4) (by decide) (im_N ha h1.1.2) (im_kd ha h1.1 hk) (by decide +kernel) ?_
        refine fw_icmp_ge (off := 24) (tgt := 29) C0 (by decide) (by decide +kernel) (fun g => ?_) (fun g => ?_)
        · exfalso
          have g2 := Int32.le_iff_toInt_le.mp g
          rw [i32n (by omega), i32n (by omega)] at g2
          omega
        refine fw_iload_n (i := 2) C0 l2 (by decide +kernel) ?_
        refine fw_aload_n (i := 1) C0 l1 (by decide +kernel) ?_
        refine fw_alen C0 (z := 4) (by decide) (im_N hb h1.1.2) (im_kd hb h1.1 hk) (by decide +kernel) ?_
        refine fw_icmp_ge (off := 18) (tgt := 29) C0 (by decide) (by decide +kernel) (fun g => ?_) (fun g => ?_)
        · exfalso
          have g2 := Int32.le_iff_toInt_le.mp g
          rw [i32n (by omega), i32n (by omega)] at g2
          omega
        have hin : vp_in (Int32.ofNat i) n := by
          rintro (q | q)
          · have := Int32.lt_iff_toInt_lt.mp q
            rw [i32n (by omega), show (0 : Int32).toInt = 0 from rfl] at this
            omega
          · rw [cp_clamp (by omega)] at q
            omega
        have ea : va_rf (((cpS [(1, r, r + i, 0, w)] a b S).2.2 (a + k) (Int32.ofNat i).toNatClampNeg).map ad) = .ref (ad (a + (r + i))) := by
          rw [cp_clamp (by omega)]
          have := im_rt (v := r + i) (j := i) ha hq h1.1 ⟨Nat.zero_le _, by show i ≤ n - 1; omega⟩ rfl
          show va_rf ((S.2.2 (a + k) i).map ad) = _
          rw [this]
          rfl
        have eb : va_rf (((cpS [(1, r, r + i, 0, w)] a b S).2.2 (b + k) (Int32.ofNat i).toNatClampNeg).map ad) = .ref (ad (b + (r + i))) := by
          rw [cp_clamp (by omega)]
          have := im_rt (v := r + i) (j := i) hb hq h1.1 ⟨Nat.zero_le _, by show i ≤ n - 1; omega⟩ rfl
          show va_rf ((S.2.2 (b + k) i).map ad) = _
          rw [this]
          rfl
        refine fw_aload_n (i := 0) C0 l0 (by decide +kernel) ?_
        refine fw_iload_n (i := 2) C0 l2 (by decide +kernel) ?_
        refine fw_aaload C0 (z := 4) (by decide) (im_N ha h1.1.2) (im_kd ha h1.1 hk) hin (by decide +kernel) ?_
        rw [ea]
        refine fw_aload_n (i := 1) C0 l1 (by decide +kernel) ?_
        refine fw_iload_n (i := 2) C0 l2 (by decide +kernel) ?_
        refine fw_aaload C0 (z := 4) (by decide) (im_N hb h1.1.2) (im_kd hb h1.1 hk) hin (by decide +kernel) ?_
        rw [eb]
        refine fw_cS C0 hSt (oc := 11) (idx := 630) (q := (630, 0, 190, 27208)) (y := (⟨"UtilityWorks", "copyLongs", "([J[J)V"⟩, prog_1_method_129_code, 2, none, 11, 0, 2, 27180, 27179, 0, 21001)) (av := [.ref (ad (a + (r + i))), .ref (ad (b + (r + i)))]) (fr := 2) (lo := 100) rfl rfl (by decide) rfl (fw_cpRowL (S := cpS [(1, r, r + i, 0, w)] a b S) hab ha hb ⟨hr1.1, hr1.2, by omega⟩ (hrow i hlt)) rfl ⟨by decide, by decide, by decide, by decide, by decide⟩ rfl (by decide +kernel) ?_
        rw [cpS_app hab, cpS_ext (fun z k1 i1 => cq_grow)]
        refine fw_iinc (n0 := 1) C0 l2 (by decide) (by decide +kernel) ?_
        refine fw_goto (off := -24) (tgt := 2) C0 (by decide) (by decide +kernel) ?_
        refine ih (i + 1) (by omega) _ (mem_st1 l0 rfl) (mem_st1 l1 rfl) ?_
        have e1 : Int32.ofNat i + Int32.ofInt 1 = Int32.ofNat (i + 1) := by
          rw [Int32.ofNat_add]
          rfl
        rw [← e1]
        exact List.mem_cons_self
    have h0 := lp n 0 (Nat.zero_add n) (fw_st1 (lv_args 0 [.ref (ad (a + k)), .ref (ad (b + k))]) 2 (.int (Int32.ofInt 0))) (mem_st1 l0 rfl) (mem_st1 l1 rfl) (by rw [show Int32.ofNat 0 = Int32.ofInt 0 from rfl]; exact List.mem_cons_self)
    rw [cpS_nil (r := (1, r, r + 0, 0, w)) (Nat.le_refl _)] at h0
    exact h0)
/-- the loop of the poor -/
theorem fw_poor {sz : Nat} (C0 : fw_C p s m args meth c D tc (fw_Af ad N sz) "UtilityWorks$Books" prog_2_method_3_code 3) (hab : a + 803 ≤ b ∨ b + 803 ≤ a) (ha : Im kd N S.2.2 a) (hb : Im kd N S.2.2 b) {lv : List (Nat × Value)} (l0 : ((0 : Nat), Value.ref (ad (b + 209))) ∈ lv) (l1 : ((1 : Nat), Value.ref (ad (a + 209))) ∈ lv) (hp : ∀ i, i < 10 → S.1 (a + 560) i = 0 ∨ S.1 (a + 560) i = 1)
    (kk : ∀ lv1, ((0 : Nat), Value.ref (ad (b + 209))) ∈ lv1 → ((1 : Nat), Value.ref (ad (a + 209))) ∈ lv1 → fw_W p l e R s m args below meth c Q D tc ad kd N 3 (fw_Af ad N sz) 119 lv1 [] (cpS [(0, 560, 561, 0, 10)] a b S) n) : fw_W p l e R s m args below meth c Q D tc ad kd N 3 (fw_Af ad N sz) 93 lv [] S n := by
  refine fw_iconst (n0 := 0) C0 (by decide +kernel) ?_
  refine fw_istore_n (i := 2) (k0 := 2) C0 rfl (by decide) (by decide +kernel) ?_
  have lp : ∀ t i, i + t = 10 → ∀ lv, ((0 : Nat), Value.ref (ad (b + 209))) ∈ lv → ((1 : Nat), Value.ref (ad (a + 209))) ∈ lv → ((2 : Nat), Value.int (Int32.ofNat i)) ∈ lv →
      fw_W p l e R s m args below meth c Q D tc ad kd N 3 (fw_Af ad N sz) 95 lv [] (cpS [(0, 560, 561, 0, i)] a b S) n := by
    intro t
    induction t with
    | zero =>
      intro i hi lv l0 l1 l2
      replace hi : i = 10 := hi
      refine fw_iload_n (i := 2) C0 l2 (by decide +kernel) ?_
      refine fw_bipush (n0 := 10) C0 (by decide +kernel) ?_
      refine fw_icmp_ge (off := 21) (tgt := 119) C0 (by decide) (by decide +kernel) (fun g => ?_) (fun g => ?_)
      · have hin : i = 10 := by omega
        rw [hin]
        exact kk lv l0 l1
      · exact absurd (Int32.le_iff_toInt_le.mpr (by rw [i32n (by omega), show (Int8.ofInt 10).toInt32.toInt = 10 from rfl]; omega)) g
    | succ t ih =>
      intro i hi lv l0 l1 l2
      have hlt : i < 10 := by omega
      refine fw_iload_n (i := 2) C0 l2 (by decide +kernel) ?_
      refine fw_bipush (n0 := 10) C0 (by decide +kernel) ?_
      refine fw_icmp_ge (off := 21) (tgt := 119) C0 (by decide) (by decide +kernel) (fun g => ?_) (fun g => ?_)
      · exfalso
        have g2 := Int32.le_iff_toInt_le.mp g
        rw [i32n (by omega), show (Int8.ofInt 10).toInt32.toInt = 10 from rfl] at g2
        omega
      have hin : vp_in (Int32.ofNat i) 10 := by
        rintro (q | q)
        · have := Int32.lt_iff_toInt_lt.mp q
          rw [i32n (by omega), show (0 : Int32).toInt = 0 from rfl] at this
          omega
        · rw [cp_clamp (by omega)] at q
          omega
      refine fw_aload_n (i := 0) C0 l0 (by decide +kernel) ?_
      refine fw_getr C0 (oc := 0) (idx := 38) (q := (38, 0, 9, 22188)) (k := b + 209) rfl rfl (im_N hb (by decide)) (im_kd hb (k := 209) (by decide) (by decide +kernel)) rfl (im_rt hb (q := (209, 9, 9, 560)) (j := 9) (v := 560) (by decide +kernel) (by decide) (by decide) (by decide)) (by decide +kernel) ?_
      refine fw_iload_n (i := 2) C0 l2 (by decide +kernel) ?_
      refine fw_aload_n (i := 1) C0 l1 (by decide +kernel) ?_
      refine fw_getr C0 (oc := 0) (idx := 38) (q := (38, 0, 9, 22188)) (k := a + 209) rfl rfl (im_N ha (by decide)) (im_kd ha (k := 209) (by decide) (by decide +kernel)) rfl (im_rt ha (q := (209, 9, 9, 560)) (j := 9) (v := 560) (by decide +kernel) (by decide) (by decide) (by decide)) (by decide +kernel) ?_
      refine fw_iload_n (i := 2) C0 l2 (by decide +kernel) ?_
      refine fw_baload C0 (im_N ha (by decide)) (im_kd ha (k := 560) (by decide) (by decide +kernel)) hin (by decide +kernel) ?_
      refine fw_bastore C0 (im_N hb (by decide)) (im_kd hb (k := 560) (by decide) (by decide +kernel)) hin (by decide +kernel) ?_
      rw [cp_clamp (by omega)]
      have e0 : vp_nar .boolean ((cpS [(0, 560, 561, 0, i)] a b S).1 (a + 560) i) = (cpS [(0, 560, 561, 0, i)] a b S).1 (a + 560) i := by
        rw [cpS_a1 hab (by decide)]
        rcases hp i hlt with g | g <;> rw [g] <;> rfl
      rw [e0, cpS_i (by decide), cpS_app hab, cpS_ext (L2 := [(0, 560, 561, 0, i + 1)]) (fun z k1 i1 => by rw [cq_in_app, cq_in_1, cq_in_1, cq_in_1]; unfold cq_1; dsimp only; omega)]
      refine fw_iinc (n0 := 1) C0 l2 (by decide) (by decide +kernel) ?_
      refine fw_goto (off := -21) (tgt := 95) C0 (by decide) (by decide +kernel) ?_
      refine ih (i + 1) (by omega) _ (mem_st1 l0 rfl) (mem_st1 l1 rfl) ?_
      have e1 : Int32.ofNat i + Int32.ofInt 1 = Int32.ofNat (i + 1) := by
        rw [Int32.ofNat_add]
        rfl
      rw [← e1]
      exact List.mem_cons_self
  have h0 := lp 10 0 rfl (fw_st1 lv 2 (.int (Int32.ofInt 0))) (mem_st1 l0 rfl) (mem_st1 l1 rfl) (by rw [show Int32.ofNat 0 = Int32.ofInt 0 from rfl]; exact List.mem_cons_self)
  have e2 : cpS [(0, 560, 561, 0, 0)] a b S = S := by
    have hn : ∀ z k i, ¬ cq_b [(0, 560, 561, 0, 0)] b z k i := fun z k i q => by
      have := (cq_in_1.mp q.2).2.2.2
      dsimp only at this
      omega
    exact Prod.ext (funext fun k => funext fun i => if_neg (hn 0 k i)) (Prod.ext (funext fun k => funext fun i => if_neg (hn 1 k i)) rfl)
  rw [e2] at h0
  exact h0
def cq_Grid : List cq_T := ((([(0, 10, 61, 0, 7)] ++ [(0, 62, 79, 0, 9)]) ++ [(0, 80, 96, 0, 6)]) ++ [(0, 96, 97, 0, 12)])
theorem Grid_cf (hab : a + 803 ≤ b ∨ b + 803 ≤ a) (ha : Im kd N S.2.2 a) (hb : Im kd N S.2.2 b) : fw_Met l ⟨"UtilityWorks$Grid", "copyFrom", "(LUtilityWorks$Grid;)V"⟩ prog_5_method_2_code 2 none 4 143 0 D tc ad kd N st [.ref (ad (b + 8)), .ref (ad (a + 8))] S (fun oc S' => oc = .inl none ∧ S' = cpS cq_Grid a b S) :=
  fw_ofW (by decide +kernel) (Nat.le_of_ble_eq_true rfl) (fun sz p e s m args below meth c C0 hSt hret hex hname => by
    have l0 : ((0 : Nat), Value.ref (ad (b + 8))) ∈ lv_args 0 [.ref (ad (b + 8)), .ref (ad (a + 8))] := List.mem_cons_self
    have l1 : ((1 : Nat), Value.ref (ad (a + 8))) ∈ lv_args 0 [.ref (ad (b + 8)), .ref (ad (a + 8))] := List.mem_cons_of_mem _ List.mem_cons_self
    refine fw_aload_n (i := 1) C0 l1 (by decide +kernel) ?_
    refine fw_getr C0 (oc := 3) (idx := 11) (q := (11, 3, 0, 21102)) (k := a + 8) rfl rfl (im_N ha (by decide)) (im_kd ha (k := 8) (by decide) (by decide +kernel)) rfl (im_rt ha (q := (8, 0, 0, 9)) (j := 0) (v := 9) (by decide +kernel) (by decide) (by decide) (by decide)) (by decide +kernel) ?_
    refine fw_aload_n (i := 0) C0 l0 (by decide +kernel) ?_
    refine fw_getr C0 (oc := 3) (idx := 11) (q := (11, 3, 0, 21102)) (k := b + 8) rfl rfl (im_N hb (by decide)) (im_kd hb (k := 8) (by decide) (by decide +kernel)) rfl (im_rt hb (q := (8, 0, 0, 9)) (j := 0) (v := 9) (by decide +kernel) (by decide) (by decide) (by decide)) (by decide +kernel) ?_
    refine fw_cS C0 hSt (oc := 3) (idx := 39) (q := (39, 2, 188, 27167)) (y := (⟨"UtilityWorks", "copyTable", "([[I[[I)V"⟩, prog_1_method_130_code, 3, none, 11, 0, 2, 27169, 27168, 0, 21001)) (av := [.ref (ad (a + 9)), .ref (ad (b + 9))]) (fr := 3) (lo := 121) rfl rfl (by decide) rfl (fw_cpTab (S := S) hab ha hb (k := 9) (n := 51) (r := 10) (w := 7) (by decide) (by decide +kernel) (by decide +kernel) (by decide +kernel)) rfl ⟨by decide, by decide, by decide, by decide, by decide⟩ rfl (by decide +kernel) ?_
    refine fw_aload_n (i := 1) C0 l1 (by decide +kernel) ?_
    refine fw_getr C0 (oc := 3) (idx := 16) (q := (16, 3, 1, 21104)) (k := a + 8) rfl rfl (im_N ha (by decide)) (im_kd ha (k := 8) (by decide) (by decide +kernel)) rfl (im_rt ha (q := (8, 1, 1, 61)) (j := 1) (v := 61) (by decide +kernel) (by decide) (by decide) (by decide)) (by decide +kernel) ?_
    refine fw_aload_n (i := 0) C0 l0 (by decide +kernel) ?_
    refine fw_getr C0 (oc := 3) (idx := 16) (q := (16, 3, 1, 21104)) (k := b + 8) rfl rfl (im_N hb (by decide)) (im_kd hb (k := 8) (by decide) (by decide +kernel)) rfl (im_rt hb (q := (8, 1, 1, 61)) (j := 1) (v := 61) (by decide +kernel) (by decide) (by decide) (by decide)) (by decide +kernel) ?_
    refine fw_cS C0 hSt (oc := 3) (idx := 39) (q := (39, 2, 188, 27167)) (y := (⟨"UtilityWorks", "copyTable", "([[I[[I)V"⟩, prog_1_method_130_code, 3, none, 11, 0, 2, 27169, 27168, 0, 21001)) (av := [.ref (ad (a + 61)), .ref (ad (b + 61))]) (fr := 3) (lo := 121) rfl rfl (by decide) rfl (fw_cpTab (S := cpS [(0, 10, 61, 0, 7)] a b S) hab ha hb (k := 61) (n := 17) (r := 62) (w := 9) (by decide) (by decide +kernel) (by decide +kernel) (by decide +kernel)) rfl ⟨by decide, by decide, by decide, by decide, by decide⟩ rfl (by decide +kernel) ?_
    rw [cpS_app hab]
    refine fw_aload_n (i := 1) C0 l1 (by decide +kernel) ?_
    refine fw_getr C0 (oc := 3) (idx := 19) (q := (19, 3, 2, 21108)) (k := a + 8) rfl rfl (im_N ha (by decide)) (im_kd ha (k := 8) (by decide) (by decide +kernel)) rfl (im_rt ha (q := (8, 2, 2, 79)) (j := 2) (v := 79) (by decide +kernel) (by decide) (by decide) (by decide)) (by decide +kernel) ?_
    refine fw_aload_n (i := 0) C0 l0 (by decide +kernel) ?_
    refine fw_getr C0 (oc := 3) (idx := 19) (q := (19, 3, 2, 21108)) (k := b + 8) rfl rfl (im_N hb (by decide)) (im_kd hb (k := 8) (by decide) (by decide +kernel)) rfl (im_rt hb (q := (8, 2, 2, 79)) (j := 2) (v := 79) (by decide +kernel) (by decide) (by decide) (by decide)) (by decide +kernel) ?_
    refine fw_cS C0 hSt (oc := 3) (idx := 39) (q := (39, 2, 188, 27167)) (y := (⟨"UtilityWorks", "copyTable", "([[I[[I)V"⟩, prog_1_method_130_code, 3, none, 11, 0, 2, 27169, 27168, 0, 21001)) (av := [.ref (ad (a + 79)), .ref (ad (b + 79))]) (fr := 3) (lo := 121) rfl rfl (by decide) rfl (fw_cpTab (S := cpS ([(0, 10, 61, 0, 7)] ++ [(0, 62, 79, 0, 9)]) a b S) hab ha hb (k := 79) (n := 16) (r := 80) (w := 6) (by decide) (by decide +kernel) (by decide +kernel) (by decide +kernel)) rfl ⟨by decide, by decide, by decide, by decide, by decide⟩ rfl (by decide +kernel) ?_
    rw [cpS_app hab]
    refine fw_aload_n (i := 1) C0 l1 (by decide +kernel) ?_
    refine fw_getr C0 (oc := 3) (idx := 22) (q := (22, 3, 3, 21110)) (k := a + 8) rfl rfl (im_N ha (by decide)) (im_kd ha (k := 8) (by decide) (by decide +kernel)) rfl (im_rt ha (q := (8, 3, 3, 96)) (j := 3) (v := 96) (by decide +kernel) (by decide) (by decide) (by decide)) (by decide +kernel) ?_
    refine fw_aload_n (i := 0) C0 l0 (by decide +kernel) ?_
    refine fw_getr C0 (oc := 3) (idx := 22) (q := (22, 3, 3, 21110)) (k := b + 8) rfl rfl (im_N hb (by decide)) (im_kd hb (k := 8) (by decide) (by decide +kernel)) rfl (im_rt hb (q := (8, 3, 3, 96)) (j := 3) (v := 96) (by decide +kernel) (by decide) (by decide) (by decide)) (by decide +kernel) ?_
    refine fw_cS C0 hSt (oc := 3) (idx := 43) (q := (43, 2, 45, 27171)) (y := (⟨"UtilityWorks", "copyRow", "([I[I)V"⟩, prog_1_method_128_code, 2, none, 11, 0, 2, 24105, 24104, 0, 21001)) (av := [.ref (ad (a + 96)), .ref (ad (b + 96))]) (fr := 2) (lo := 100) rfl rfl (by decide) rfl (fw_cpRow (S := cpS (([(0, 10, 61, 0, 7)] ++ [(0, 62, 79, 0, 9)]) ++ [(0, 80, 96, 0, 6)]) a b S) hab ha hb (k := 96) (n := 12) (by decide) (by decide +kernel)) rfl ⟨by decide, by decide, by decide, by decide, by decide⟩ rfl (by decide +kernel) ?_
    rw [cpS_app hab]
    exact fw_vret C0 hSt hret (Nat.le_refl _) ⟨rfl, rfl⟩ (by decide +kernel))
def cq_Power : List cq_T := ((([(0, 97, 98, 0, 1)] ++ [(0, 99, 103, 0, 3)]) ++ [(0, 103, 104, 0, 10)]) ++ [(1, 104, 105, 0, 6)])
theorem Power_cf (hab : a + 803 ≤ b ∨ b + 803 ≤ a) (ha : Im kd N S.2.2 a) (hb : Im kd N S.2.2 b) : fw_Met l ⟨"UtilityWorks$Power", "copyFrom", "(LUtilityWorks$Power;)V"⟩ prog_7_method_2_code 2 none 4 143 0 D tc ad kd N st [.ref (ad (b + 97)), .ref (ad (a + 97))] S (fun oc S' => oc = .inl none ∧ S' = cpS cq_Power a b S) :=
  fw_ofW (by decide +kernel) (Nat.le_of_ble_eq_true rfl) (fun sz p e s m args below meth c C0 hSt hret hex hname => by
    have l0 : ((0 : Nat), Value.ref (ad (b + 97))) ∈ lv_args 0 [.ref (ad (b + 97)), .ref (ad (a + 97))] := List.mem_cons_self
    have l1 : ((1 : Nat), Value.ref (ad (a + 97))) ∈ lv_args 0 [.ref (ad (b + 97)), .ref (ad (a + 97))] := List.mem_cons_of_mem _ List.mem_cons_self
    refine fw_aload_n (i := 0) C0 l0 (by decide +kernel) ?_
    refine fw_aload_n (i := 1) C0 l1 (by decide +kernel) ?_
    refine fw_geti C0 (oc := 5) (idx := 62) (q := (62, 5, 0, 21137)) (k := a + 97) rfl rfl (im_N ha (by decide)) (im_kd ha (k := 97) (by decide) (by decide +kernel)) rfl (by decide +kernel) ?_
    refine fw_puti C0 hab (oc := 5) (idx := 62) (q := (62, 5, 0, 21137)) (k := 97) (a := a) (b := b) rfl rfl (im_N hb (by decide)) (by decide) (im_kd hb (k := 97) (by decide) (by decide +kernel)) (by decide +kernel) rfl (by decide +kernel) ?_
    refine fw_aload_n (i := 1) C0 l1 (by decide +kernel) ?_
    refine fw_getr C0 (oc := 5) (idx := 13) (q := (13, 5, 1, 21139)) (k := a + 97) rfl rfl (im_N ha (by decide)) (im_kd ha (k := 97) (by decide) (by decide +kernel)) rfl (im_rt ha (q := (97, 1, 1, 98)) (j := 1) (v := 98) (by decide +kernel) (by decide) (by decide) (by decide)) (by decide +kernel) ?_
    refine fw_aload_n (i := 0) C0 l0 (by decide +kernel) ?_
    refine fw_getr C0 (oc := 5) (idx := 13) (q := (13, 5, 1, 21139)) (k := b + 97) rfl rfl (im_N hb (by decide)) (im_kd hb (k := 97) (by decide) (by decide +kernel)) rfl (im_rt hb (q := (97, 1, 1, 98)) (j := 1) (v := 98) (by decide +kernel) (by decide) (by decide) (by decide)) (by decide +kernel) ?_
    refine fw_cS C0 hSt (oc := 5) (idx := 66) (q := (66, 2, 188, 27176)) (y := (⟨"UtilityWorks", "copyTable", "([[I[[I)V"⟩, prog_1_method_130_code, 3, none, 11, 0, 2, 27169, 27168, 0, 21001)) (av := [.ref (ad (a + 98)), .ref (ad (b + 98))]) (fr := 3) (lo := 121) rfl rfl (by decide) rfl (fw_cpTab (S := cpS [(0, 97, 98, 0, 1)] a b S) hab ha hb (k := 98) (n := 4) (r := 99) (w := 3) (by decide) (by decide +kernel) (by decide +kernel) (by decide +kernel)) rfl ⟨by decide, by decide, by decide, by decide, by decide⟩ rfl (by decide +kernel) ?_
    rw [cpS_app hab]
    refine fw_aload_n (i := 1) C0 l1 (by decide +kernel) ?_
    refine fw_getr C0 (oc := 5) (idx := 16) (q := (16, 5, 2, 21141)) (k := a + 97) rfl rfl (im_N ha (by decide)) (im_kd ha (k := 97) (by decide) (by decide +kernel)) rfl (im_rt ha (q := (97, 2, 2, 103)) (j := 2) (v := 103) (by decide +kernel) (by decide) (by decide) (by decide)) (by decide +kernel) ?_
    refine fw_aload_n (i := 0) C0 l0 (by decide +kernel) ?_
    refine fw_getr C0 (oc := 5) (idx := 16) (q := (16, 5, 2, 21141)) (k := b + 97) rfl rfl (im_N hb (by decide)) (im_kd hb (k := 97) (by decide) (by decide +kernel)) rfl (im_rt hb (q := (97, 2, 2, 103)) (j := 2) (v := 103) (by decide +kernel) (by decide) (by decide) (by decide)) (by decide +kernel) ?_
    refine fw_cS C0 hSt (oc := 5) (idx := 70) (q := (70, 2, 45, 27177)) (y := (⟨"UtilityWorks", "copyRow", "([I[I)V"⟩, prog_1_method_128_code, 2, none, 11, 0, 2, 24105, 24104, 0, 21001)) (av := [.ref (ad (a + 103)), .ref (ad (b + 103))]) (fr := 2) (lo := 100) rfl rfl (by decide) rfl (fw_cpRow (S := cpS ([(0, 97, 98, 0, 1)] ++ [(0, 99, 103, 0, 3)]) a b S) hab ha hb (k := 103) (n := 10) (by decide) (by decide +kernel)) rfl ⟨by decide, by decide, by decide, by decide, by decide⟩ rfl (by decide +kernel) ?_
    rw [cpS_app hab]
    refine fw_aload_n (i := 1) C0 l1 (by decide +kernel) ?_
    refine fw_getr C0 (oc := 5) (idx := 20) (q := (20, 5, 3, 21143)) (k := a + 97) rfl rfl (im_N ha (by decide)) (im_kd ha (k := 97) (by decide) (by decide +kernel)) rfl (im_rt ha (q := (97, 3, 3, 104)) (j := 3) (v := 104) (by decide +kernel) (by decide) (by decide) (by decide)) (by decide +kernel) ?_
    refine fw_aload_n (i := 0) C0 l0 (by decide +kernel) ?_
    refine fw_getr C0 (oc := 5) (idx := 20) (q := (20, 5, 3, 21143)) (k := b + 97) rfl rfl (im_N hb (by decide)) (im_kd hb (k := 97) (by decide) (by decide +kernel)) rfl (im_rt hb (q := (97, 3, 3, 104)) (j := 3) (v := 104) (by decide +kernel) (by decide) (by decide) (by decide)) (by decide +kernel) ?_
    refine fw_cS C0 hSt (oc := 5) (idx := 74) (q := (74, 2, 190, 27178)) (y := (⟨"UtilityWorks", "copyLongs", "([J[J)V"⟩, prog_1_method_129_code, 2, none, 11, 0, 2, 27180, 27179, 0, 21001)) (av := [.ref (ad (a + 104)), .ref (ad (b + 104))]) (fr := 2) (lo := 100) rfl rfl (by decide) rfl (fw_cpRowL (S := cpS (([(0, 97, 98, 0, 1)] ++ [(0, 99, 103, 0, 3)]) ++ [(0, 103, 104, 0, 10)]) a b S) hab ha hb (k := 104) (n := 6) (by decide) (by decide +kernel)) rfl ⟨by decide, by decide, by decide, by decide, by decide⟩ rfl (by decide +kernel) ?_
    rw [cpS_app hab]
    exact fw_vret C0 hSt hret (Nat.le_refl _) ⟨rfl, rfl⟩ (by decide +kernel))
def cq_Water : List cq_T := ((((([(0, 116, 117, 0, 1)] ++ [(0, 118, 121, 0, 4)]) ++ [(0, 116, 117, 2, 3)]) ++ [(0, 122, 126, 0, 4)]) ++ [(0, 126, 127, 0, 12)]) ++ [(1, 127, 128, 0, 6)])
theorem Water_cf (hab : a + 803 ≤ b ∨ b + 803 ≤ a) (ha : Im kd N S.2.2 a) (hb : Im kd N S.2.2 b) : fw_Met l ⟨"UtilityWorks$Water", "copyFrom", "(LUtilityWorks$Water;)V"⟩ prog_11_method_2_code 2 none 4 143 0 D tc ad kd N st [.ref (ad (b + 116)), .ref (ad (a + 116))] S (fun oc S' => oc = .inl none ∧ S' = cpS cq_Water a b S) :=
  fw_ofW (by decide +kernel) (Nat.le_of_ble_eq_true rfl) (fun sz p e s m args below meth c C0 hSt hret hex hname => by
    have l0 : ((0 : Nat), Value.ref (ad (b + 116))) ∈ lv_args 0 [.ref (ad (b + 116)), .ref (ad (a + 116))] := List.mem_cons_self
    have l1 : ((1 : Nat), Value.ref (ad (a + 116))) ∈ lv_args 0 [.ref (ad (b + 116)), .ref (ad (a + 116))] := List.mem_cons_of_mem _ List.mem_cons_self
    refine fw_aload_n (i := 0) C0 l0 (by decide +kernel) ?_
    refine fw_aload_n (i := 1) C0 l1 (by decide +kernel) ?_
    refine fw_geti C0 (oc := 9) (idx := 71) (q := (71, 9, 0, 21217)) (k := a + 116) rfl rfl (im_N ha (by decide)) (im_kd ha (k := 116) (by decide) (by decide +kernel)) rfl (by decide +kernel) ?_
    refine fw_puti C0 hab (oc := 9) (idx := 71) (q := (71, 9, 0, 21217)) (k := 116) (a := a) (b := b) rfl rfl (im_N hb (by decide)) (by decide) (im_kd hb (k := 116) (by decide) (by decide +kernel)) (by decide +kernel) rfl (by decide +kernel) ?_
    refine fw_aload_n (i := 1) C0 l1 (by decide +kernel) ?_
    refine fw_getr C0 (oc := 9) (idx := 13) (q := (13, 9, 1, 21220)) (k := a + 116) rfl rfl (im_N ha (by decide)) (im_kd ha (k := 116) (by decide) (by decide +kernel)) rfl (im_rt ha (q := (116, 1, 1, 117)) (j := 1) (v := 117) (by decide +kernel) (by decide) (by decide) (by decide)) (by decide +kernel) ?_
    refine fw_aload_n (i := 0) C0 l0 (by decide +kernel) ?_
    refine fw_getr C0 (oc := 9) (idx := 13) (q := (13, 9, 1, 21220)) (k := b + 116) rfl rfl (im_N hb (by decide)) (im_kd hb (k := 116) (by decide) (by decide +kernel)) rfl (im_rt hb (q := (116, 1, 1, 117)) (j := 1) (v := 117) (by decide +kernel) (by decide) (by decide) (by decide)) (by decide +kernel) ?_
    refine fw_cS C0 hSt (oc := 9) (idx := 75) (q := (75, 2, 188, 27185)) (y := (⟨"UtilityWorks", "copyTable", "([[I[[I)V"⟩, prog_1_method_130_code, 3, none, 11, 0, 2, 27169, 27168, 0, 21001)) (av := [.ref (ad (a + 117)), .ref (ad (b + 117))]) (fr := 3) (lo := 121) rfl rfl (by decide) rfl (fw_cpTab (S := cpS [(0, 116, 117, 0, 1)] a b S) hab ha hb (k := 117) (n := 3) (r := 118) (w := 4) (by decide) (by decide +kernel) (by decide +kernel) (by decide +kernel)) rfl ⟨by decide, by decide, by decide, by decide, by decide⟩ rfl (by decide +kernel) ?_
    rw [cpS_app hab]
    refine fw_aload_n (i := 0) C0 l0 (by decide +kernel) ?_
    refine fw_aload_n (i := 1) C0 l1 (by decide +kernel) ?_
    refine fw_geti C0 (oc := 9) (idx := 79) (q := (79, 9, 2, 21223)) (k := a + 116) rfl rfl (im_N ha (by decide)) (im_kd ha (k := 116) (by decide) (by decide +kernel)) rfl (by decide +kernel) ?_
    refine fw_puti C0 hab (oc := 9) (idx := 79) (q := (79, 9, 2, 21223)) (k := 116) (a := a) (b := b) rfl rfl (im_N hb (by decide)) (by decide) (im_kd hb (k := 116) (by decide) (by decide +kernel)) (by decide +kernel) rfl (by decide +kernel) ?_
    rw [cpS_app hab]
    refine fw_aload_n (i := 1) C0 l1 (by decide +kernel) ?_
    refine fw_getr C0 (oc := 9) (idx := 16) (q := (16, 9, 3, 21225)) (k := a + 116) rfl rfl (im_N ha (by decide)) (im_kd ha (k := 116) (by decide) (by decide +kernel)) rfl (im_rt ha (q := (116, 3, 3, 121)) (j := 3) (v := 121) (by decide +kernel) (by decide) (by decide) (by decide)) (by decide +kernel) ?_
    refine fw_aload_n (i := 0) C0 l0 (by decide +kernel) ?_
    refine fw_getr C0 (oc := 9) (idx := 16) (q := (16, 9, 3, 21225)) (k := b + 116) rfl rfl (im_N hb (by decide)) (im_kd hb (k := 116) (by decide) (by decide +kernel)) rfl (im_rt hb (q := (116, 3, 3, 121)) (j := 3) (v := 121) (by decide +kernel) (by decide) (by decide) (by decide)) (by decide +kernel) ?_
    refine fw_cS C0 hSt (oc := 9) (idx := 75) (q := (75, 2, 188, 27185)) (y := (⟨"UtilityWorks", "copyTable", "([[I[[I)V"⟩, prog_1_method_130_code, 3, none, 11, 0, 2, 27169, 27168, 0, 21001)) (av := [.ref (ad (a + 121)), .ref (ad (b + 121))]) (fr := 3) (lo := 121) rfl rfl (by decide) rfl (fw_cpTab (S := cpS (([(0, 116, 117, 0, 1)] ++ [(0, 118, 121, 0, 4)]) ++ [(0, 116, 117, 2, 3)]) a b S) hab ha hb (k := 121) (n := 4) (r := 122) (w := 4) (by decide) (by decide +kernel) (by decide +kernel) (by decide +kernel)) rfl ⟨by decide, by decide, by decide, by decide, by decide⟩ rfl (by decide +kernel) ?_
    rw [cpS_app hab]
    refine fw_aload_n (i := 1) C0 l1 (by decide +kernel) ?_
    refine fw_getr C0 (oc := 9) (idx := 19) (q := (19, 9, 4, 21227)) (k := a + 116) rfl rfl (im_N ha (by decide)) (im_kd ha (k := 116) (by decide) (by decide +kernel)) rfl (im_rt ha (q := (116, 4, 4, 126)) (j := 4) (v := 126) (by decide +kernel) (by decide) (by decide) (by decide)) (by decide +kernel) ?_
    refine fw_aload_n (i := 0) C0 l0 (by decide +kernel) ?_
    refine fw_getr C0 (oc := 9) (idx := 19) (q := (19, 9, 4, 21227)) (k := b + 116) rfl rfl (im_N hb (by decide)) (im_kd hb (k := 116) (by decide) (by decide +kernel)) rfl (im_rt hb (q := (116, 4, 4, 126)) (j := 4) (v := 126) (by decide +kernel) (by decide) (by decide) (by decide)) (by decide +kernel) ?_
    refine fw_cS C0 hSt (oc := 9) (idx := 82) (q := (82, 2, 45, 24103)) (y := (⟨"UtilityWorks", "copyRow", "([I[I)V"⟩, prog_1_method_128_code, 2, none, 11, 0, 2, 24105, 24104, 0, 21001)) (av := [.ref (ad (a + 126)), .ref (ad (b + 126))]) (fr := 2) (lo := 100) rfl rfl (by decide) rfl (fw_cpRow (S := cpS ((([(0, 116, 117, 0, 1)] ++ [(0, 118, 121, 0, 4)]) ++ [(0, 116, 117, 2, 3)]) ++ [(0, 122, 126, 0, 4)]) a b S) hab ha hb (k := 126) (n := 12) (by decide) (by decide +kernel)) rfl ⟨by decide, by decide, by decide, by decide, by decide⟩ rfl (by decide +kernel) ?_
    rw [cpS_app hab]
    refine fw_aload_n (i := 1) C0 l1 (by decide +kernel) ?_
    refine fw_getr C0 (oc := 9) (idx := 23) (q := (23, 9, 5, 21228)) (k := a + 116) rfl rfl (im_N ha (by decide)) (im_kd ha (k := 116) (by decide) (by decide +kernel)) rfl (im_rt ha (q := (116, 5, 5, 127)) (j := 5) (v := 127) (by decide +kernel) (by decide) (by decide) (by decide)) (by decide +kernel) ?_
    refine fw_aload_n (i := 0) C0 l0 (by decide +kernel) ?_
    refine fw_getr C0 (oc := 9) (idx := 23) (q := (23, 9, 5, 21228)) (k := b + 116) rfl rfl (im_N hb (by decide)) (im_kd hb (k := 116) (by decide) (by decide +kernel)) rfl (im_rt hb (q := (116, 5, 5, 127)) (j := 5) (v := 127) (by decide +kernel) (by decide) (by decide) (by decide)) (by decide +kernel) ?_
    refine fw_cS C0 hSt (oc := 9) (idx := 86) (q := (86, 2, 190, 27186)) (y := (⟨"UtilityWorks", "copyLongs", "([J[J)V"⟩, prog_1_method_129_code, 2, none, 11, 0, 2, 27180, 27179, 0, 21001)) (av := [.ref (ad (a + 127)), .ref (ad (b + 127))]) (fr := 2) (lo := 100) rfl rfl (by decide) rfl (fw_cpRowL (S := cpS (((([(0, 116, 117, 0, 1)] ++ [(0, 118, 121, 0, 4)]) ++ [(0, 116, 117, 2, 3)]) ++ [(0, 122, 126, 0, 4)]) ++ [(0, 126, 127, 0, 12)]) a b S) hab ha hb (k := 127) (n := 6) (by decide) (by decide +kernel)) rfl ⟨by decide, by decide, by decide, by decide, by decide⟩ rfl (by decide +kernel) ?_
    rw [cpS_app hab]
    exact fw_vret C0 hSt hret (Nat.le_refl _) ⟨rfl, rfl⟩ (by decide +kernel))
def cq_Heat : List cq_T := ((([(0, 147, 148, 0, 1)] ++ [(0, 149, 151, 0, 5)]) ++ [(0, 151, 152, 0, 10)]) ++ [(1, 152, 153, 0, 5)])
theorem Heat_cf (hab : a + 803 ≤ b ∨ b + 803 ≤ a) (ha : Im kd N S.2.2 a) (hb : Im kd N S.2.2 b) : fw_Met l ⟨"UtilityWorks$Heat", "copyFrom", "(LUtilityWorks$Heat;)V"⟩ prog_6_method_2_code 2 none 4 143 0 D tc ad kd N st [.ref (ad (b + 147)), .ref (ad (a + 147))] S (fun oc S' => oc = .inl none ∧ S' = cpS cq_Heat a b S) :=
  fw_ofW (by decide +kernel) (Nat.le_of_ble_eq_true rfl) (fun sz p e s m args below meth c C0 hSt hret hex hname => by
    have l0 : ((0 : Nat), Value.ref (ad (b + 147))) ∈ lv_args 0 [.ref (ad (b + 147)), .ref (ad (a + 147))] := List.mem_cons_self
    have l1 : ((1 : Nat), Value.ref (ad (a + 147))) ∈ lv_args 0 [.ref (ad (b + 147)), .ref (ad (a + 147))] := List.mem_cons_of_mem _ List.mem_cons_self
    refine fw_aload_n (i := 0) C0 l0 (by decide +kernel) ?_
    refine fw_aload_n (i := 1) C0 l1 (by decide +kernel) ?_
    refine fw_geti C0 (oc := 4) (idx := 64) (q := (64, 4, 0, 22057)) (k := a + 147) rfl rfl (im_N ha (by decide)) (im_kd ha (k := 147) (by decide) (by decide +kernel)) rfl (by decide +kernel) ?_
    refine fw_puti C0 hab (oc := 4) (idx := 64) (q := (64, 4, 0, 22057)) (k := 147) (a := a) (b := b) rfl rfl (im_N hb (by decide)) (by decide) (im_kd hb (k := 147) (by decide) (by decide +kernel)) (by decide +kernel) rfl (by decide +kernel) ?_
    refine fw_aload_n (i := 1) C0 l1 (by decide +kernel) ?_
    refine fw_getr C0 (oc := 4) (idx := 13) (q := (13, 4, 1, 22061)) (k := a + 147) rfl rfl (im_N ha (by decide)) (im_kd ha (k := 147) (by decide) (by decide +kernel)) rfl (im_rt ha (q := (147, 1, 1, 148)) (j := 1) (v := 148) (by decide +kernel) (by decide) (by decide) (by decide)) (by decide +kernel) ?_
    refine fw_aload_n (i := 0) C0 l0 (by decide +kernel) ?_
    refine fw_getr C0 (oc := 4) (idx := 13) (q := (13, 4, 1, 22061)) (k := b + 147) rfl rfl (im_N hb (by decide)) (im_kd hb (k := 147) (by decide) (by decide +kernel)) rfl (im_rt hb (q := (147, 1, 1, 148)) (j := 1) (v := 148) (by decide +kernel) (by decide) (by decide) (by decide)) (by decide +kernel) ?_
    refine fw_cS C0 hSt (oc := 4) (idx := 68) (q := (68, 2, 188, 27191)) (y := (⟨"UtilityWorks", "copyTable", "([[I[[I)V"⟩, prog_1_method_130_code, 3, none, 11, 0, 2, 27169, 27168, 0, 21001)) (av := [.ref (ad (a + 148)), .ref (ad (b + 148))]) (fr := 3) (lo := 121) rfl rfl (by decide) rfl (fw_cpTab (S := cpS [(0, 147, 148, 0, 1)] a b S) hab ha hb (k := 148) (n := 2) (r := 149) (w := 5) (by decide) (by decide +kernel) (by decide +kernel) (by decide +kernel)) rfl ⟨by decide, by decide, by decide, by decide, by decide⟩ rfl (by decide +kernel) ?_
    rw [cpS_app hab]
    refine fw_aload_n (i := 1) C0 l1 (by decide +kernel) ?_
    refine fw_getr C0 (oc := 4) (idx := 16) (q := (16, 4, 2, 22065)) (k := a + 147) rfl rfl (im_N ha (by decide)) (im_kd ha (k := 147) (by decide) (by decide +kernel)) rfl (im_rt ha (q := (147, 2, 2, 151)) (j := 2) (v := 151) (by decide +kernel) (by decide) (by decide) (by decide)) (by decide +kernel) ?_
    refine fw_aload_n (i := 0) C0 l0 (by decide +kernel) ?_
    refine fw_getr C0 (oc := 4) (idx := 16) (q := (16, 4, 2, 22065)) (k := b + 147) rfl rfl (im_N hb (by decide)) (im_kd hb (k := 147) (by decide) (by decide +kernel)) rfl (im_rt hb (q := (147, 2, 2, 151)) (j := 2) (v := 151) (by decide +kernel) (by decide) (by decide) (by decide)) (by decide +kernel) ?_
    refine fw_cS C0 hSt (oc := 4) (idx := 72) (q := (72, 2, 45, 24216)) (y := (⟨"UtilityWorks", "copyRow", "([I[I)V"⟩, prog_1_method_128_code, 2, none, 11, 0, 2, 24105, 24104, 0, 21001)) (av := [.ref (ad (a + 151)), .ref (ad (b + 151))]) (fr := 2) (lo := 100) rfl rfl (by decide) rfl (fw_cpRow (S := cpS ([(0, 147, 148, 0, 1)] ++ [(0, 149, 151, 0, 5)]) a b S) hab ha hb (k := 151) (n := 10) (by decide) (by decide +kernel)) rfl ⟨by decide, by decide, by decide, by decide, by decide⟩ rfl (by decide +kernel) ?_
    rw [cpS_app hab]
    refine fw_aload_n (i := 1) C0 l1 (by decide +kernel) ?_
    refine fw_getr C0 (oc := 4) (idx := 20) (q := (20, 4, 3, 22067)) (k := a + 147) rfl rfl (im_N ha (by decide)) (im_kd ha (k := 147) (by decide) (by decide +kernel)) rfl (im_rt ha (q := (147, 3, 3, 152)) (j := 3) (v := 152) (by decide +kernel) (by decide) (by decide) (by decide)) (by decide +kernel) ?_
    refine fw_aload_n (i := 0) C0 l0 (by decide +kernel) ?_
    refine fw_getr C0 (oc := 4) (idx := 20) (q := (20, 4, 3, 22067)) (k := b + 147) rfl rfl (im_N hb (by decide)) (im_kd hb (k := 147) (by decide) (by decide +kernel)) rfl (im_rt hb (q := (147, 3, 3, 152)) (j := 3) (v := 152) (by decide +kernel) (by decide) (by decide) (by decide)) (by decide +kernel) ?_
    refine fw_cS C0 hSt (oc := 4) (idx := 76) (q := (76, 2, 190, 27192)) (y := (⟨"UtilityWorks", "copyLongs", "([J[J)V"⟩, prog_1_method_129_code, 2, none, 11, 0, 2, 27180, 27179, 0, 21001)) (av := [.ref (ad (a + 152)), .ref (ad (b + 152))]) (fr := 2) (lo := 100) rfl rfl (by decide) rfl (fw_cpRowL (S := cpS (([(0, 147, 148, 0, 1)] ++ [(0, 149, 151, 0, 5)]) ++ [(0, 151, 152, 0, 10)]) a b S) hab ha hb (k := 152) (n := 5) (by decide) (by decide +kernel)) rfl ⟨by decide, by decide, by decide, by decide, by decide⟩ rfl (by decide +kernel) ?_
    rw [cpS_app hab]
    exact fw_vret C0 hSt hret (Nat.le_refl _) ⟨rfl, rfl⟩ (by decide +kernel))
def cq_Customers : List cq_T := ((([(0, 165, 166, 0, 1)] ++ [(0, 167, 177, 0, 14)]) ++ [(0, 177, 178, 0, 10)]) ++ [(0, 179, 209, 0, 16)])
theorem Customers_cf (hab : a + 803 ≤ b ∨ b + 803 ≤ a) (ha : Im kd N S.2.2 a) (hb : Im kd N S.2.2 b) : fw_Met l ⟨"UtilityWorks$Customers", "copyFrom", "(LUtilityWorks$Customers;)V"⟩ prog_4_method_2_code 2 none 4 143 0 D tc ad kd N st [.ref (ad (b + 165)), .ref (ad (a + 165))] S (fun oc S' => oc = .inl none ∧ S' = cpS cq_Customers a b S) :=
  fw_ofW (by decide +kernel) (Nat.le_of_ble_eq_true rfl) (fun sz p e s m args below meth c C0 hSt hret hex hname => by
    have l0 : ((0 : Nat), Value.ref (ad (b + 165))) ∈ lv_args 0 [.ref (ad (b + 165)), .ref (ad (a + 165))] := List.mem_cons_self
    have l1 : ((1 : Nat), Value.ref (ad (a + 165))) ∈ lv_args 0 [.ref (ad (b + 165)), .ref (ad (a + 165))] := List.mem_cons_of_mem _ List.mem_cons_self
    refine fw_aload_n (i := 0) C0 l0 (by decide +kernel) ?_
    refine fw_aload_n (i := 1) C0 l1 (by decide +kernel) ?_
    refine fw_geti C0 (oc := 2) (idx := 30) (q := (30, 2, 0, 22129)) (k := a + 165) rfl rfl (im_N ha (by decide)) (im_kd ha (k := 165) (by decide) (by decide +kernel)) rfl (by decide +kernel) ?_
    refine fw_puti C0 hab (oc := 2) (idx := 30) (q := (30, 2, 0, 22129)) (k := 165) (a := a) (b := b) rfl rfl (im_N hb (by decide)) (by decide) (im_kd hb (k := 165) (by decide) (by decide +kernel)) (by decide +kernel) rfl (by decide +kernel) ?_
    refine fw_aload_n (i := 1) C0 l1 (by decide +kernel) ?_
    refine fw_getr C0 (oc := 2) (idx := 11) (q := (11, 2, 1, 22136)) (k := a + 165) rfl rfl (im_N ha (by decide)) (im_kd ha (k := 165) (by decide) (by decide +kernel)) rfl (im_rt ha (q := (165, 1, 1, 166)) (j := 1) (v := 166) (by decide +kernel) (by decide) (by decide) (by decide)) (by decide +kernel) ?_
    refine fw_aload_n (i := 0) C0 l0 (by decide +kernel) ?_
    refine fw_getr C0 (oc := 2) (idx := 11) (q := (11, 2, 1, 22136)) (k := b + 165) rfl rfl (im_N hb (by decide)) (im_kd hb (k := 165) (by decide) (by decide +kernel)) rfl (im_rt hb (q := (165, 1, 1, 166)) (j := 1) (v := 166) (by decide +kernel) (by decide) (by decide) (by decide)) (by decide +kernel) ?_
    refine fw_cS C0 hSt (oc := 2) (idx := 34) (q := (34, 2, 188, 27197)) (y := (⟨"UtilityWorks", "copyTable", "([[I[[I)V"⟩, prog_1_method_130_code, 3, none, 11, 0, 2, 27169, 27168, 0, 21001)) (av := [.ref (ad (a + 166)), .ref (ad (b + 166))]) (fr := 3) (lo := 121) rfl rfl (by decide) rfl (fw_cpTab (S := cpS [(0, 165, 166, 0, 1)] a b S) hab ha hb (k := 166) (n := 10) (r := 167) (w := 14) (by decide) (by decide +kernel) (by decide +kernel) (by decide +kernel)) rfl ⟨by decide, by decide, by decide, by decide, by decide⟩ rfl (by decide +kernel) ?_
    rw [cpS_app hab]
    refine fw_aload_n (i := 1) C0 l1 (by decide +kernel) ?_
    refine fw_getr C0 (oc := 2) (idx := 16) (q := (16, 2, 2, 22143)) (k := a + 165) rfl rfl (im_N ha (by decide)) (im_kd ha (k := 165) (by decide) (by decide +kernel)) rfl (im_rt ha (q := (165, 2, 2, 177)) (j := 2) (v := 177) (by decide +kernel) (by decide) (by decide) (by decide)) (by decide +kernel) ?_
    refine fw_aload_n (i := 0) C0 l0 (by decide +kernel) ?_
    refine fw_getr C0 (oc := 2) (idx := 16) (q := (16, 2, 2, 22143)) (k := b + 165) rfl rfl (im_N hb (by decide)) (im_kd hb (k := 165) (by decide) (by decide +kernel)) rfl (im_rt hb (q := (165, 2, 2, 177)) (j := 2) (v := 177) (by decide +kernel) (by decide) (by decide) (by decide)) (by decide +kernel) ?_
    refine fw_cS C0 hSt (oc := 2) (idx := 38) (q := (38, 2, 45, 27198)) (y := (⟨"UtilityWorks", "copyRow", "([I[I)V"⟩, prog_1_method_128_code, 2, none, 11, 0, 2, 24105, 24104, 0, 21001)) (av := [.ref (ad (a + 177)), .ref (ad (b + 177))]) (fr := 2) (lo := 100) rfl rfl (by decide) rfl (fw_cpRow (S := cpS ([(0, 165, 166, 0, 1)] ++ [(0, 167, 177, 0, 14)]) a b S) hab ha hb (k := 177) (n := 10) (by decide) (by decide +kernel)) rfl ⟨by decide, by decide, by decide, by decide, by decide⟩ rfl (by decide +kernel) ?_
    rw [cpS_app hab]
    refine fw_aload_n (i := 1) C0 l1 (by decide +kernel) ?_
    refine fw_getr C0 (oc := 2) (idx := 20) (q := (20, 2, 3, 22147)) (k := a + 165) rfl rfl (im_N ha (by decide)) (im_kd ha (k := 165) (by decide) (by decide +kernel)) rfl (im_rt ha (q := (165, 3, 3, 178)) (j := 3) (v := 178) (by decide +kernel) (by decide) (by decide) (by decide)) (by decide +kernel) ?_
    refine fw_aload_n (i := 0) C0 l0 (by decide +kernel) ?_
    refine fw_getr C0 (oc := 2) (idx := 20) (q := (20, 2, 3, 22147)) (k := b + 165) rfl rfl (im_N hb (by decide)) (im_kd hb (k := 165) (by decide) (by decide +kernel)) rfl (im_rt hb (q := (165, 3, 3, 178)) (j := 3) (v := 178) (by decide +kernel) (by decide) (by decide) (by decide)) (by decide +kernel) ?_
    refine fw_cS C0 hSt (oc := 2) (idx := 34) (q := (34, 2, 188, 27197)) (y := (⟨"UtilityWorks", "copyTable", "([[I[[I)V"⟩, prog_1_method_130_code, 3, none, 11, 0, 2, 27169, 27168, 0, 21001)) (av := [.ref (ad (a + 178)), .ref (ad (b + 178))]) (fr := 3) (lo := 121) rfl rfl (by decide) rfl (fw_cpTab (S := cpS (([(0, 165, 166, 0, 1)] ++ [(0, 167, 177, 0, 14)]) ++ [(0, 177, 178, 0, 10)]) a b S) hab ha hb (k := 178) (n := 30) (r := 179) (w := 16) (by decide) (by decide +kernel) (by decide +kernel) (by decide +kernel)) rfl ⟨by decide, by decide, by decide, by decide, by decide⟩ rfl (by decide +kernel) ?_
    rw [cpS_app hab]
    exact fw_vret C0 hSt hret (Nat.le_refl _) ⟨rfl, rfl⟩ (by decide +kernel))
def cq_Books : List cq_T := (((((((((([(0, 211, 214, 0, 4)] ++ [(1, 214, 215, 0, 7)]) ++ [(1, 209, 210, 2, 3)]) ++ [(1, 209, 210, 3, 4)]) ++ [(1, 216, 556, 0, 8)]) ++ [(0, 556, 557, 0, 10)]) ++ [(0, 557, 558, 0, 30)]) ++ [(0, 558, 559, 0, 30)]) ++ [(1, 559, 560, 0, 10)]) ++ [(0, 560, 561, 0, 10)]) ++ [(1, 562, 572, 0, 5)])
theorem Books_cf (hab : a + 803 ≤ b ∨ b + 803 ≤ a) (ha : Im kd N S.2.2 a) (hb : Im kd N S.2.2 b) (hpoor : ∀ i, i < 10 → S.1 (a + 560) i = 0 ∨ S.1 (a + 560) i = 1) : fw_Met l ⟨"UtilityWorks$Books", "copyFrom", "(LUtilityWorks$Books;)V"⟩ prog_2_method_3_code 3 none 4 144 0 D tc ad kd N st [.ref (ad (b + 209)), .ref (ad (a + 209))] S (fun oc S' => oc = .inl none ∧ S' = cpS cq_Books a b S) :=
  fw_ofW (by decide +kernel) (Nat.le_of_ble_eq_true rfl) (fun sz p e s m args below meth c C0 hSt hret hex hname => by
    have l0 : ((0 : Nat), Value.ref (ad (b + 209))) ∈ lv_args 0 [.ref (ad (b + 209)), .ref (ad (a + 209))] := List.mem_cons_self
    have l1 : ((1 : Nat), Value.ref (ad (a + 209))) ∈ lv_args 0 [.ref (ad (b + 209)), .ref (ad (a + 209))] := List.mem_cons_of_mem _ List.mem_cons_self
    refine fw_aload_n (i := 1) C0 l1 (by decide +kernel) ?_
    refine fw_getr C0 (oc := 0) (idx := 13) (q := (13, 0, 0, 22171)) (k := a + 209) rfl rfl (im_N ha (by decide)) (im_kd ha (k := 209) (by decide) (by decide +kernel)) rfl (im_rt ha (q := (209, 0, 0, 210)) (j := 0) (v := 210) (by decide +kernel) (by decide) (by decide) (by decide)) (by decide +kernel) ?_
    refine fw_aload_n (i := 0) C0 l0 (by decide +kernel) ?_
    refine fw_getr C0 (oc := 0) (idx := 13) (q := (13, 0, 0, 22171)) (k := b + 209) rfl rfl (im_N hb (by decide)) (im_kd hb (k := 209) (by decide) (by decide +kernel)) rfl (im_rt hb (q := (209, 0, 0, 210)) (j := 0) (v := 210) (by decide +kernel) (by decide) (by decide) (by decide)) (by decide +kernel) ?_
    refine fw_cS C0 hSt (oc := 0) (idx := 51) (q := (51, 2, 188, 27203)) (y := (⟨"UtilityWorks", "copyTable", "([[I[[I)V"⟩, prog_1_method_130_code, 3, none, 11, 0, 2, 27169, 27168, 0, 21001)) (av := [.ref (ad (a + 210)), .ref (ad (b + 210))]) (fr := 3) (lo := 121) rfl rfl (by decide) rfl (fw_cpTab (S := S) hab ha hb (k := 210) (n := 3) (r := 211) (w := 4) (by decide) (by decide +kernel) (by decide +kernel) (by decide +kernel)) rfl ⟨by decide, by decide, by decide, by decide, by decide⟩ rfl (by decide +kernel) ?_
    refine fw_aload_n (i := 1) C0 l1 (by decide +kernel) ?_
    refine fw_getr C0 (oc := 0) (idx := 16) (q := (16, 0, 1, 22173)) (k := a + 209) rfl rfl (im_N ha (by decide)) (im_kd ha (k := 209) (by decide) (by decide +kernel)) rfl (im_rt ha (q := (209, 1, 1, 214)) (j := 1) (v := 214) (by decide +kernel) (by decide) (by decide) (by decide)) (by decide +kernel) ?_
    refine fw_aload_n (i := 0) C0 l0 (by decide +kernel) ?_
    refine fw_getr C0 (oc := 0) (idx := 16) (q := (16, 0, 1, 22173)) (k := b + 209) rfl rfl (im_N hb (by decide)) (im_kd hb (k := 209) (by decide) (by decide +kernel)) rfl (im_rt hb (q := (209, 1, 1, 214)) (j := 1) (v := 214) (by decide +kernel) (by decide) (by decide) (by decide)) (by decide +kernel) ?_
    refine fw_cS C0 hSt (oc := 0) (idx := 55) (q := (55, 2, 190, 27204)) (y := (⟨"UtilityWorks", "copyLongs", "([J[J)V"⟩, prog_1_method_129_code, 2, none, 11, 0, 2, 27180, 27179, 0, 21001)) (av := [.ref (ad (a + 214)), .ref (ad (b + 214))]) (fr := 2) (lo := 100) rfl rfl (by decide) rfl (fw_cpRowL (S := cpS [(0, 211, 214, 0, 4)] a b S) hab ha hb (k := 214) (n := 7) (by decide) (by decide +kernel)) rfl ⟨by decide, by decide, by decide, by decide, by decide⟩ rfl (by decide +kernel) ?_
    rw [cpS_app hab]
    refine fw_aload_n (i := 0) C0 l0 (by decide +kernel) ?_
    refine fw_aload_n (i := 1) C0 l1 (by decide +kernel) ?_
    refine fw_getl C0 (oc := 0) (idx := 59) (q := (59, 0, 2, 22176)) (k := a + 209) rfl rfl (im_N ha (by decide)) (im_kd ha (k := 209) (by decide) (by decide +kernel)) rfl (by decide +kernel) ?_
    refine fw_putl C0 hab (oc := 0) (idx := 59) (q := (59, 0, 2, 22176)) (k := 209) (a := a) (b := b) rfl rfl (im_N hb (by decide)) (by decide) (im_kd hb (k := 209) (by decide) (by decide +kernel)) (by decide +kernel) rfl (by decide +kernel) ?_
    rw [cpS_app hab]
    refine fw_aload_n (i := 0) C0 l0 (by decide +kernel) ?_
    refine fw_aload_n (i := 1) C0 l1 (by decide +kernel) ?_
    refine fw_getl C0 (oc := 0) (idx := 63) (q := (63, 0, 3, 22179)) (k := a + 209) rfl rfl (im_N ha (by decide)) (im_kd ha (k := 209) (by decide) (by decide +kernel)) rfl (by decide +kernel) ?_
    refine fw_putl C0 hab (oc := 0) (idx := 63) (q := (63, 0, 3, 22179)) (k := 209) (a := a) (b := b) rfl rfl (im_N hb (by decide)) (by decide) (im_kd hb (k := 209) (by decide) (by decide +kernel)) (by decide +kernel) rfl (by decide +kernel) ?_
    rw [cpS_app hab]
    refine fw_aload_n (i := 1) C0 l1 (by decide +kernel) ?_
    refine fw_getr C0 (oc := 0) (idx := 22) (q := (22, 0, 4, 22182)) (k := a + 209) rfl rfl (im_N ha (by decide)) (im_kd ha (k := 209) (by decide) (by decide +kernel)) rfl (im_rt ha (q := (209, 4, 4, 215)) (j := 4) (v := 215) (by decide +kernel) (by decide) (by decide) (by decide)) (by decide +kernel) ?_
    refine fw_aload_n (i := 0) C0 l0 (by decide +kernel) ?_
    refine fw_getr C0 (oc := 0) (idx := 22) (q := (22, 0, 4, 22182)) (k := b + 209) rfl rfl (im_N hb (by decide)) (im_kd hb (k := 209) (by decide) (by decide +kernel)) rfl (im_rt hb (q := (209, 4, 4, 215)) (j := 4) (v := 215) (by decide +kernel) (by decide) (by decide) (by decide)) (by decide +kernel) ?_
    refine fw_cS C0 hSt (oc := 0) (idx := 66) (q := (66, 2, 195, 27205)) (y := (⟨"UtilityWorks", "copyLongTable", "([[J[[J)V"⟩, prog_1_method_131_code, 3, none, 11, 0, 2, 27207, 27206, 0, 21001)) (av := [.ref (ad (a + 215)), .ref (ad (b + 215))]) (fr := 3) (lo := 121) rfl rfl (by decide) rfl (fw_cpTabL (S := cpS ((([(0, 211, 214, 0, 4)] ++ [(1, 214, 215, 0, 7)]) ++ [(1, 209, 210, 2, 3)]) ++ [(1, 209, 210, 3, 4)]) a b S) hab ha hb (k := 215) (n := 340) (r := 216) (w := 8) (by decide) (by decide +kernel) (by decide +kernel) (by decide +kernel)) rfl ⟨by decide, by decide, by decide, by decide, by decide⟩ rfl (by decide +kernel) ?_
    rw [cpS_app hab]
    refine fw_aload_n (i := 1) C0 l1 (by decide +kernel) ?_
    refine fw_getr C0 (oc := 0) (idx := 25) (q := (25, 0, 5, 22183)) (k := a + 209) rfl rfl (im_N ha (by decide)) (im_kd ha (k := 209) (by decide) (by decide +kernel)) rfl (im_rt ha (q := (209, 5, 5, 556)) (j := 5) (v := 556) (by decide +kernel) (by decide) (by decide) (by decide)) (by decide +kernel) ?_
    refine fw_aload_n (i := 0) C0 l0 (by decide +kernel) ?_
    refine fw_getr C0 (oc := 0) (idx := 25) (q := (25, 0, 5, 22183)) (k := b + 209) rfl rfl (im_N hb (by decide)) (im_kd hb (k := 209) (by decide) (by decide +kernel)) rfl (im_rt hb (q := (209, 5, 5, 556)) (j := 5) (v := 556) (by decide +kernel) (by decide) (by decide) (by decide)) (by decide +kernel) ?_
    refine fw_cS C0 hSt (oc := 0) (idx := 70) (q := (70, 2, 45, 27209)) (y := (⟨"UtilityWorks", "copyRow", "([I[I)V"⟩, prog_1_method_128_code, 2, none, 11, 0, 2, 24105, 24104, 0, 21001)) (av := [.ref (ad (a + 556)), .ref (ad (b + 556))]) (fr := 2) (lo := 100) rfl rfl (by decide) rfl (fw_cpRow (S := cpS (((([(0, 211, 214, 0, 4)] ++ [(1, 214, 215, 0, 7)]) ++ [(1, 209, 210, 2, 3)]) ++ [(1, 209, 210, 3, 4)]) ++ [(1, 216, 556, 0, 8)]) a b S) hab ha hb (k := 556) (n := 10) (by decide) (by decide +kernel)) rfl ⟨by decide, by decide, by decide, by decide, by decide⟩ rfl (by decide +kernel) ?_
    rw [cpS_app hab]
    refine fw_aload_n (i := 1) C0 l1 (by decide +kernel) ?_
    refine fw_getr C0 (oc := 0) (idx := 29) (q := (29, 0, 6, 22185)) (k := a + 209) rfl rfl (im_N ha (by decide)) (im_kd ha (k := 209) (by decide) (by decide +kernel)) rfl (im_rt ha (q := (209, 6, 6, 557)) (j := 6) (v := 557) (by decide +kernel) (by decide) (by decide) (by decide)) (by decide +kernel) ?_
    refine fw_aload_n (i := 0) C0 l0 (by decide +kernel) ?_
    refine fw_getr C0 (oc := 0) (idx := 29) (q := (29, 0, 6, 22185)) (k := b + 209) rfl rfl (im_N hb (by decide)) (im_kd hb (k := 209) (by decide) (by decide +kernel)) rfl (im_rt hb (q := (209, 6, 6, 557)) (j := 6) (v := 557) (by decide +kernel) (by decide) (by decide) (by decide)) (by decide +kernel) ?_
    refine fw_cS C0 hSt (oc := 0) (idx := 70) (q := (70, 2, 45, 27209)) (y := (⟨"UtilityWorks", "copyRow", "([I[I)V"⟩, prog_1_method_128_code, 2, none, 11, 0, 2, 24105, 24104, 0, 21001)) (av := [.ref (ad (a + 557)), .ref (ad (b + 557))]) (fr := 2) (lo := 100) rfl rfl (by decide) rfl (fw_cpRow (S := cpS ((((([(0, 211, 214, 0, 4)] ++ [(1, 214, 215, 0, 7)]) ++ [(1, 209, 210, 2, 3)]) ++ [(1, 209, 210, 3, 4)]) ++ [(1, 216, 556, 0, 8)]) ++ [(0, 556, 557, 0, 10)]) a b S) hab ha hb (k := 557) (n := 30) (by decide) (by decide +kernel)) rfl ⟨by decide, by decide, by decide, by decide, by decide⟩ rfl (by decide +kernel) ?_
    rw [cpS_app hab]
    refine fw_aload_n (i := 1) C0 l1 (by decide +kernel) ?_
    refine fw_getr C0 (oc := 0) (idx := 32) (q := (32, 0, 7, 22186)) (k := a + 209) rfl rfl (im_N ha (by decide)) (im_kd ha (k := 209) (by decide) (by decide +kernel)) rfl (im_rt ha (q := (209, 7, 7, 558)) (j := 7) (v := 558) (by decide +kernel) (by decide) (by decide) (by decide)) (by decide +kernel) ?_
    refine fw_aload_n (i := 0) C0 l0 (by decide +kernel) ?_
    refine fw_getr C0 (oc := 0) (idx := 32) (q := (32, 0, 7, 22186)) (k := b + 209) rfl rfl (im_N hb (by decide)) (im_kd hb (k := 209) (by decide) (by decide +kernel)) rfl (im_rt hb (q := (209, 7, 7, 558)) (j := 7) (v := 558) (by decide +kernel) (by decide) (by decide) (by decide)) (by decide +kernel) ?_
    refine fw_cS C0 hSt (oc := 0) (idx := 70) (q := (70, 2, 45, 27209)) (y := (⟨"UtilityWorks", "copyRow", "([I[I)V"⟩, prog_1_method_128_code, 2, none, 11, 0, 2, 24105, 24104, 0, 21001)) (av := [.ref (ad (a + 558)), .ref (ad (b + 558))]) (fr := 2) (lo := 100) rfl rfl (by decide) rfl (fw_cpRow (S := cpS (((((([(0, 211, 214, 0, 4)] ++ [(1, 214, 215, 0, 7)]) ++ [(1, 209, 210, 2, 3)]) ++ [(1, 209, 210, 3, 4)]) ++ [(1, 216, 556, 0, 8)]) ++ [(0, 556, 557, 0, 10)]) ++ [(0, 557, 558, 0, 30)]) a b S) hab ha hb (k := 558) (n := 30) (by decide) (by decide +kernel)) rfl ⟨by decide, by decide, by decide, by decide, by decide⟩ rfl (by decide +kernel) ?_
    rw [cpS_app hab]
    refine fw_aload_n (i := 1) C0 l1 (by decide +kernel) ?_
    refine fw_getr C0 (oc := 0) (idx := 35) (q := (35, 0, 8, 22187)) (k := a + 209) rfl rfl (im_N ha (by decide)) (im_kd ha (k := 209) (by decide) (by decide +kernel)) rfl (im_rt ha (q := (209, 8, 8, 559)) (j := 8) (v := 559) (by decide +kernel) (by decide) (by decide) (by decide)) (by decide +kernel) ?_
    refine fw_aload_n (i := 0) C0 l0 (by decide +kernel) ?_
    refine fw_getr C0 (oc := 0) (idx := 35) (q := (35, 0, 8, 22187)) (k := b + 209) rfl rfl (im_N hb (by decide)) (im_kd hb (k := 209) (by decide) (by decide +kernel)) rfl (im_rt hb (q := (209, 8, 8, 559)) (j := 8) (v := 559) (by decide +kernel) (by decide) (by decide) (by decide)) (by decide +kernel) ?_
    refine fw_cS C0 hSt (oc := 0) (idx := 55) (q := (55, 2, 190, 27204)) (y := (⟨"UtilityWorks", "copyLongs", "([J[J)V"⟩, prog_1_method_129_code, 2, none, 11, 0, 2, 27180, 27179, 0, 21001)) (av := [.ref (ad (a + 559)), .ref (ad (b + 559))]) (fr := 2) (lo := 100) rfl rfl (by decide) rfl (fw_cpRowL (S := cpS ((((((([(0, 211, 214, 0, 4)] ++ [(1, 214, 215, 0, 7)]) ++ [(1, 209, 210, 2, 3)]) ++ [(1, 209, 210, 3, 4)]) ++ [(1, 216, 556, 0, 8)]) ++ [(0, 556, 557, 0, 10)]) ++ [(0, 557, 558, 0, 30)]) ++ [(0, 558, 559, 0, 30)]) a b S) hab ha hb (k := 559) (n := 10) (by decide) (by decide +kernel)) rfl ⟨by decide, by decide, by decide, by decide, by decide⟩ rfl (by decide +kernel) ?_
    rw [cpS_app hab]
    refine fw_poor (S := cpS (((((((([(0, 211, 214, 0, 4)] ++ [(1, 214, 215, 0, 7)]) ++ [(1, 209, 210, 2, 3)]) ++ [(1, 209, 210, 3, 4)]) ++ [(1, 216, 556, 0, 8)]) ++ [(0, 556, 557, 0, 10)]) ++ [(0, 557, 558, 0, 30)]) ++ [(0, 558, 559, 0, 30)]) ++ [(1, 559, 560, 0, 10)]) a b S) C0 hab ha hb l0 l1 (fun i hi => by rw [cpS_a1 hab (by decide)]; exact hpoor i hi) (fun lv1 l0 l1 => ?_)
    rw [cpS_app hab]
    refine fw_aload_n (i := 1) C0 l1 (by decide +kernel) ?_
    refine fw_getr C0 (oc := 0) (idx := 42) (q := (42, 0, 10, 22190)) (k := a + 209) rfl rfl (im_N ha (by decide)) (im_kd ha (k := 209) (by decide) (by decide +kernel)) rfl (im_rt ha (q := (209, 10, 10, 561)) (j := 10) (v := 561) (by decide +kernel) (by decide) (by decide) (by decide)) (by decide +kernel) ?_
    refine fw_aload_n (i := 0) C0 l0 (by decide +kernel) ?_
    refine fw_getr C0 (oc := 0) (idx := 42) (q := (42, 0, 10, 22190)) (k := b + 209) rfl rfl (im_N hb (by decide)) (im_kd hb (k := 209) (by decide) (by decide +kernel)) rfl (im_rt hb (q := (209, 10, 10, 561)) (j := 10) (v := 561) (by decide +kernel) (by decide) (by decide) (by decide)) (by decide +kernel) ?_
    refine fw_cS C0 hSt (oc := 0) (idx := 66) (q := (66, 2, 195, 27205)) (y := (⟨"UtilityWorks", "copyLongTable", "([[J[[J)V"⟩, prog_1_method_131_code, 3, none, 11, 0, 2, 27207, 27206, 0, 21001)) (av := [.ref (ad (a + 561)), .ref (ad (b + 561))]) (fr := 3) (lo := 121) rfl rfl (by decide) rfl (fw_cpTabL (S := cpS ((((((((([(0, 211, 214, 0, 4)] ++ [(1, 214, 215, 0, 7)]) ++ [(1, 209, 210, 2, 3)]) ++ [(1, 209, 210, 3, 4)]) ++ [(1, 216, 556, 0, 8)]) ++ [(0, 556, 557, 0, 10)]) ++ [(0, 557, 558, 0, 30)]) ++ [(0, 558, 559, 0, 30)]) ++ [(1, 559, 560, 0, 10)]) ++ [(0, 560, 561, 0, 10)]) a b S) hab ha hb (k := 561) (n := 10) (r := 562) (w := 5) (by decide) (by decide +kernel) (by decide +kernel) (by decide +kernel)) rfl ⟨by decide, by decide, by decide, by decide, by decide⟩ rfl (by decide +kernel) ?_
    rw [cpS_app hab]
    exact fw_vret C0 hSt hret (Nat.le_refl _) ⟨rfl, rfl⟩ (by decide +kernel))
def cq_Crews : List cq_T := ((([(0, 572, 573, 0, 1)] ++ [(0, 574, 578, 0, 7)]) ++ [(0, 572, 573, 2, 3)]) ++ [(0, 579, 779, 0, 6)])
theorem Crews_cf (hab : a + 803 ≤ b ∨ b + 803 ≤ a) (ha : Im kd N S.2.2 a) (hb : Im kd N S.2.2 b) : fw_Met l ⟨"UtilityWorks$Crews", "copyFrom", "(LUtilityWorks$Crews;)V"⟩ prog_3_method_2_code 2 none 4 143 0 D tc ad kd N st [.ref (ad (b + 572)), .ref (ad (a + 572))] S (fun oc S' => oc = .inl none ∧ S' = cpS cq_Crews a b S) :=
  fw_ofW (by decide +kernel) (Nat.le_of_ble_eq_true rfl) (fun sz p e s m args below meth c C0 hSt hret hex hname => by
    have l0 : ((0 : Nat), Value.ref (ad (b + 572))) ∈ lv_args 0 [.ref (ad (b + 572)), .ref (ad (a + 572))] := List.mem_cons_self
    have l1 : ((1 : Nat), Value.ref (ad (a + 572))) ∈ lv_args 0 [.ref (ad (b + 572)), .ref (ad (a + 572))] := List.mem_cons_of_mem _ List.mem_cons_self
    refine fw_aload_n (i := 0) C0 l0 (by decide +kernel) ?_
    refine fw_aload_n (i := 1) C0 l1 (by decide +kernel) ?_
    refine fw_geti C0 (oc := 1) (idx := 23) (q := (23, 1, 0, 22226)) (k := a + 572) rfl rfl (im_N ha (by decide)) (im_kd ha (k := 572) (by decide) (by decide +kernel)) rfl (by decide +kernel) ?_
    refine fw_puti C0 hab (oc := 1) (idx := 23) (q := (23, 1, 0, 22226)) (k := 572) (a := a) (b := b) rfl rfl (im_N hb (by decide)) (by decide) (im_kd hb (k := 572) (by decide) (by decide +kernel)) (by decide +kernel) rfl (by decide +kernel) ?_
    refine fw_aload_n (i := 1) C0 l1 (by decide +kernel) ?_
    refine fw_getr C0 (oc := 1) (idx := 13) (q := (13, 1, 1, 22228)) (k := a + 572) rfl rfl (im_N ha (by decide)) (im_kd ha (k := 572) (by decide) (by decide +kernel)) rfl (im_rt ha (q := (572, 1, 1, 573)) (j := 1) (v := 573) (by decide +kernel) (by decide) (by decide) (by decide)) (by decide +kernel) ?_
    refine fw_aload_n (i := 0) C0 l0 (by decide +kernel) ?_
    refine fw_getr C0 (oc := 1) (idx := 13) (q := (13, 1, 1, 22228)) (k := b + 572) rfl rfl (im_N hb (by decide)) (im_kd hb (k := 572) (by decide) (by decide +kernel)) rfl (im_rt hb (q := (572, 1, 1, 573)) (j := 1) (v := 573) (by decide +kernel) (by decide) (by decide) (by decide)) (by decide +kernel) ?_
    refine fw_cS C0 hSt (oc := 1) (idx := 27) (q := (27, 2, 188, 27214)) (y := (⟨"UtilityWorks", "copyTable", "([[I[[I)V"⟩, prog_1_method_130_code, 3, none, 11, 0, 2, 27169, 27168, 0, 21001)) (av := [.ref (ad (a + 573)), .ref (ad (b + 573))]) (fr := 3) (lo := 121) rfl rfl (by decide) rfl (fw_cpTab (S := cpS [(0, 572, 573, 0, 1)] a b S) hab ha hb (k := 573) (n := 4) (r := 574) (w := 7) (by decide) (by decide +kernel) (by decide +kernel) (by decide +kernel)) rfl ⟨by decide, by decide, by decide, by decide, by decide⟩ rfl (by decide +kernel) ?_
    rw [cpS_app hab]
    refine fw_aload_n (i := 0) C0 l0 (by decide +kernel) ?_
    refine fw_aload_n (i := 1) C0 l1 (by decide +kernel) ?_
    refine fw_geti C0 (oc := 1) (idx := 31) (q := (31, 1, 2, 22230)) (k := a + 572) rfl rfl (im_N ha (by decide)) (im_kd ha (k := 572) (by decide) (by decide +kernel)) rfl (by decide +kernel) ?_
    refine fw_puti C0 hab (oc := 1) (idx := 31) (q := (31, 1, 2, 22230)) (k := 572) (a := a) (b := b) rfl rfl (im_N hb (by decide)) (by decide) (im_kd hb (k := 572) (by decide) (by decide +kernel)) (by decide +kernel) rfl (by decide +kernel) ?_
    rw [cpS_app hab]
    refine fw_aload_n (i := 1) C0 l1 (by decide +kernel) ?_
    refine fw_getr C0 (oc := 1) (idx := 16) (q := (16, 1, 3, 22232)) (k := a + 572) rfl rfl (im_N ha (by decide)) (im_kd ha (k := 572) (by decide) (by decide +kernel)) rfl (im_rt ha (q := (572, 3, 3, 578)) (j := 3) (v := 578) (by decide +kernel) (by decide) (by decide) (by decide)) (by decide +kernel) ?_
    refine fw_aload_n (i := 0) C0 l0 (by decide +kernel) ?_
    refine fw_getr C0 (oc := 1) (idx := 16) (q := (16, 1, 3, 22232)) (k := b + 572) rfl rfl (im_N hb (by decide)) (im_kd hb (k := 572) (by decide) (by decide +kernel)) rfl (im_rt hb (q := (572, 3, 3, 578)) (j := 3) (v := 578) (by decide +kernel) (by decide) (by decide) (by decide)) (by decide +kernel) ?_
    refine fw_cS C0 hSt (oc := 1) (idx := 27) (q := (27, 2, 188, 27214)) (y := (⟨"UtilityWorks", "copyTable", "([[I[[I)V"⟩, prog_1_method_130_code, 3, none, 11, 0, 2, 27169, 27168, 0, 21001)) (av := [.ref (ad (a + 578)), .ref (ad (b + 578))]) (fr := 3) (lo := 121) rfl rfl (by decide) rfl (fw_cpTab (S := cpS (([(0, 572, 573, 0, 1)] ++ [(0, 574, 578, 0, 7)]) ++ [(0, 572, 573, 2, 3)]) a b S) hab ha hb (k := 578) (n := 200) (r := 579) (w := 6) (by decide) (by decide +kernel) (by decide +kernel) (by decide +kernel)) rfl ⟨by decide, by decide, by decide, by decide, by decide⟩ rfl (by decide +kernel) ?_
    rw [cpS_app hab]
    exact fw_vret C0 hSt hret (Nat.le_refl _) ⟨rfl, rfl⟩ (by decide +kernel))
def cq_Stores : List cq_T := ([(0, 781, 785, 0, 7)] ++ [(0, 786, 794, 0, 3)])
theorem Stores_cf (hab : a + 803 ≤ b ∨ b + 803 ≤ a) (ha : Im kd N S.2.2 a) (hb : Im kd N S.2.2 b) : fw_Met l ⟨"UtilityWorks$Stores", "copyFrom", "(LUtilityWorks$Stores;)V"⟩ prog_9_method_2_code 2 none 4 143 0 D tc ad kd N st [.ref (ad (b + 779)), .ref (ad (a + 779))] S (fun oc S' => oc = .inl none ∧ S' = cpS cq_Stores a b S) :=
  fw_ofW (by decide +kernel) (Nat.le_of_ble_eq_true rfl) (fun sz p e s m args below meth c C0 hSt hret hex hname => by
    have l0 : ((0 : Nat), Value.ref (ad (b + 779))) ∈ lv_args 0 [.ref (ad (b + 779)), .ref (ad (a + 779))] := List.mem_cons_self
    have l1 : ((1 : Nat), Value.ref (ad (a + 779))) ∈ lv_args 0 [.ref (ad (b + 779)), .ref (ad (a + 779))] := List.mem_cons_of_mem _ List.mem_cons_self
    refine fw_aload_n (i := 1) C0 l1 (by decide +kernel) ?_
    refine fw_getr C0 (oc := 7) (idx := 13) (q := (13, 7, 0, 23012)) (k := a + 779) rfl rfl (im_N ha (by decide)) (im_kd ha (k := 779) (by decide) (by decide +kernel)) rfl (im_rt ha (q := (779, 0, 0, 780)) (j := 0) (v := 780) (by decide +kernel) (by decide) (by decide) (by decide)) (by decide +kernel) ?_
    refine fw_aload_n (i := 0) C0 l0 (by decide +kernel) ?_
    refine fw_getr C0 (oc := 7) (idx := 13) (q := (13, 7, 0, 23012)) (k := b + 779) rfl rfl (im_N hb (by decide)) (im_kd hb (k := 779) (by decide) (by decide +kernel)) rfl (im_rt hb (q := (779, 0, 0, 780)) (j := 0) (v := 780) (by decide +kernel) (by decide) (by decide) (by decide)) (by decide +kernel) ?_
    refine fw_cS C0 hSt (oc := 7) (idx := 23) (q := (23, 2, 188, 27219)) (y := (⟨"UtilityWorks", "copyTable", "([[I[[I)V"⟩, prog_1_method_130_code, 3, none, 11, 0, 2, 27169, 27168, 0, 21001)) (av := [.ref (ad (a + 780)), .ref (ad (b + 780))]) (fr := 3) (lo := 121) rfl rfl (by decide) rfl (fw_cpTab (S := S) hab ha hb (k := 780) (n := 4) (r := 781) (w := 7) (by decide) (by decide +kernel) (by decide +kernel) (by decide +kernel)) rfl ⟨by decide, by decide, by decide, by decide, by decide⟩ rfl (by decide +kernel) ?_
    refine fw_aload_n (i := 1) C0 l1 (by decide +kernel) ?_
    refine fw_getr C0 (oc := 7) (idx := 16) (q := (16, 7, 1, 23014)) (k := a + 779) rfl rfl (im_N ha (by decide)) (im_kd ha (k := 779) (by decide) (by decide +kernel)) rfl (im_rt ha (q := (779, 1, 1, 785)) (j := 1) (v := 785) (by decide +kernel) (by decide) (by decide) (by decide)) (by decide +kernel) ?_
    refine fw_aload_n (i := 0) C0 l0 (by decide +kernel) ?_
    refine fw_getr C0 (oc := 7) (idx := 16) (q := (16, 7, 1, 23014)) (k := b + 779) rfl rfl (im_N hb (by decide)) (im_kd hb (k := 779) (by decide) (by decide +kernel)) rfl (im_rt hb (q := (779, 1, 1, 785)) (j := 1) (v := 785) (by decide +kernel) (by decide) (by decide) (by decide)) (by decide +kernel) ?_
    refine fw_cS C0 hSt (oc := 7) (idx := 23) (q := (23, 2, 188, 27219)) (y := (⟨"UtilityWorks", "copyTable", "([[I[[I)V"⟩, prog_1_method_130_code, 3, none, 11, 0, 2, 27169, 27168, 0, 21001)) (av := [.ref (ad (a + 785)), .ref (ad (b + 785))]) (fr := 3) (lo := 121) rfl rfl (by decide) rfl (fw_cpTab (S := cpS [(0, 781, 785, 0, 7)] a b S) hab ha hb (k := 785) (n := 8) (r := 786) (w := 3) (by decide) (by decide +kernel) (by decide +kernel) (by decide +kernel)) rfl ⟨by decide, by decide, by decide, by decide, by decide⟩ rfl (by decide +kernel) ?_
    rw [cpS_app hab]
    exact fw_vret C0 hSt hret (Nat.le_refl _) ⟨rfl, rfl⟩ (by decide +kernel))
def cq_Sky : List cq_T := ((((((([(0, 794, 795, 0, 1)] ++ [(0, 794, 795, 1, 2)]) ++ [(0, 794, 795, 2, 3)]) ++ [(0, 794, 795, 3, 4)]) ++ [(0, 794, 795, 4, 5)]) ++ [(0, 794, 795, 5, 6)]) ++ [(0, 796, 800, 0, 4)]) ++ [(0, 800, 801, 0, 6)])
theorem Sky_cf (hab : a + 803 ≤ b ∨ b + 803 ≤ a) (ha : Im kd N S.2.2 a) (hb : Im kd N S.2.2 b) (hbo3 : S.1 (a + 794) 3 = 0 ∨ S.1 (a + 794) 3 = 1) (hbo5 : S.1 (a + 794) 5 = 0 ∨ S.1 (a + 794) 5 = 1) : fw_Met l ⟨"UtilityWorks$Sky", "copyFrom", "(LUtilityWorks$Sky;)V"⟩ prog_8_method_2_code 2 none 4 143 0 D tc ad kd N st [.ref (ad (b + 794)), .ref (ad (a + 794))] S (fun oc S' => oc = .inl none ∧ S' = cpS cq_Sky a b S) :=
  fw_ofW (by decide +kernel) (Nat.le_of_ble_eq_true rfl) (fun sz p e s m args below meth c C0 hSt hret hex hname => by
    have l0 : ((0 : Nat), Value.ref (ad (b + 794))) ∈ lv_args 0 [.ref (ad (b + 794)), .ref (ad (a + 794))] := List.mem_cons_self
    have l1 : ((1 : Nat), Value.ref (ad (a + 794))) ∈ lv_args 0 [.ref (ad (b + 794)), .ref (ad (a + 794))] := List.mem_cons_of_mem _ List.mem_cons_self
    refine fw_aload_n (i := 0) C0 l0 (by decide +kernel) ?_
    refine fw_aload_n (i := 1) C0 l1 (by decide +kernel) ?_
    refine fw_geti C0 (oc := 6) (idx := 9) (q := (9, 6, 0, 23027)) (k := a + 794) rfl rfl (im_N ha (by decide)) (im_kd ha (k := 794) (by decide) (by decide +kernel)) rfl (by decide +kernel) ?_
    refine fw_puti C0 hab (oc := 6) (idx := 9) (q := (9, 6, 0, 23027)) (k := 794) (a := a) (b := b) rfl rfl (im_N hb (by decide)) (by decide) (im_kd hb (k := 794) (by decide) (by decide +kernel)) (by decide +kernel) rfl (by decide +kernel) ?_
    refine fw_aload_n (i := 0) C0 l0 (by decide +kernel) ?_
    refine fw_aload_n (i := 1) C0 l1 (by decide +kernel) ?_
    refine fw_geti C0 (oc := 6) (idx := 15) (q := (15, 6, 1, 23032)) (k := a + 794) rfl rfl (im_N ha (by decide)) (im_kd ha (k := 794) (by decide) (by decide +kernel)) rfl (by decide +kernel) ?_
    refine fw_puti C0 hab (oc := 6) (idx := 15) (q := (15, 6, 1, 23032)) (k := 794) (a := a) (b := b) rfl rfl (im_N hb (by decide)) (by decide) (im_kd hb (k := 794) (by decide) (by decide +kernel)) (by decide +kernel) rfl (by decide +kernel) ?_
    rw [cpS_app hab]
    refine fw_aload_n (i := 0) C0 l0 (by decide +kernel) ?_
    refine fw_aload_n (i := 1) C0 l1 (by decide +kernel) ?_
    refine fw_geti C0 (oc := 6) (idx := 30) (q := (30, 6, 2, 23034)) (k := a + 794) rfl rfl (im_N ha (by decide)) (im_kd ha (k := 794) (by decide) (by decide +kernel)) rfl (by decide +kernel) ?_
    refine fw_puti C0 hab (oc := 6) (idx := 30) (q := (30, 6, 2, 23034)) (k := 794) (a := a) (b := b) rfl rfl (im_N hb (by decide)) (by decide) (im_kd hb (k := 794) (by decide) (by decide +kernel)) (by decide +kernel) rfl (by decide +kernel) ?_
    rw [cpS_app hab]
    refine fw_aload_n (i := 0) C0 l0 (by decide +kernel) ?_
    refine fw_aload_n (i := 1) C0 l1 (by decide +kernel) ?_
    refine fw_geti C0 (oc := 6) (idx := 33) (q := (33, 6, 3, 23036)) (k := a + 794) rfl rfl (im_N ha (by decide)) (im_kd ha (k := 794) (by decide) (by decide +kernel)) rfl (by decide +kernel) ?_
    refine fw_putb C0 hab (oc := 6) (idx := 33) (q := (33, 6, 3, 23036)) (k := 794) (a := a) (b := b) rfl rfl (im_N hb (by decide)) (by decide) (im_kd hb (k := 794) (by decide) (by decide +kernel)) (by decide +kernel) rfl (by rw [cpS_a1 hab (by decide)]; exact hbo3) (by decide +kernel) ?_
    rw [cpS_app hab]
    refine fw_aload_n (i := 0) C0 l0 (by decide +kernel) ?_
    refine fw_aload_n (i := 1) C0 l1 (by decide +kernel) ?_
    refine fw_geti C0 (oc := 6) (idx := 18) (q := (18, 6, 4, 23038)) (k := a + 794) rfl rfl (im_N ha (by decide)) (im_kd ha (k := 794) (by decide) (by decide +kernel)) rfl (by decide +kernel) ?_
    refine fw_puti C0 hab (oc := 6) (idx := 18) (q := (18, 6, 4, 23038)) (k := 794) (a := a) (b := b) rfl rfl (im_N hb (by decide)) (by decide) (im_kd hb (k := 794) (by decide) (by decide +kernel)) (by decide +kernel) rfl (by decide +kernel) ?_
    rw [cpS_app hab]
    refine fw_aload_n (i := 0) C0 l0 (by decide +kernel) ?_
    refine fw_aload_n (i := 1) C0 l1 (by decide +kernel) ?_
    refine fw_geti C0 (oc := 6) (idx := 37) (q := (37, 6, 5, 23040)) (k := a + 794) rfl rfl (im_N ha (by decide)) (im_kd ha (k := 794) (by decide) (by decide +kernel)) rfl (by decide +kernel) ?_
    refine fw_putb C0 hab (oc := 6) (idx := 37) (q := (37, 6, 5, 23040)) (k := 794) (a := a) (b := b) rfl rfl (im_N hb (by decide)) (by decide) (im_kd hb (k := 794) (by decide) (by decide +kernel)) (by decide +kernel) rfl (by rw [cpS_a1 hab (by decide)]; exact hbo5) (by decide +kernel) ?_
    rw [cpS_app hab]
    refine fw_aload_n (i := 1) C0 l1 (by decide +kernel) ?_
    refine fw_getr C0 (oc := 6) (idx := 23) (q := (23, 6, 6, 23043)) (k := a + 794) rfl rfl (im_N ha (by decide)) (im_kd ha (k := 794) (by decide) (by decide +kernel)) rfl (im_rt ha (q := (794, 6, 6, 795)) (j := 6) (v := 795) (by decide +kernel) (by decide) (by decide) (by decide)) (by decide +kernel) ?_
    refine fw_aload_n (i := 0) C0 l0 (by decide +kernel) ?_
    refine fw_getr C0 (oc := 6) (idx := 23) (q := (23, 6, 6, 23043)) (k := b + 794) rfl rfl (im_N hb (by decide)) (im_kd hb (k := 794) (by decide) (by decide +kernel)) rfl (im_rt hb (q := (794, 6, 6, 795)) (j := 6) (v := 795) (by decide +kernel) (by decide) (by decide) (by decide)) (by decide +kernel) ?_
    refine fw_cS C0 hSt (oc := 6) (idx := 40) (q := (40, 2, 188, 27224)) (y := (⟨"UtilityWorks", "copyTable", "([[I[[I)V"⟩, prog_1_method_130_code, 3, none, 11, 0, 2, 27169, 27168, 0, 21001)) (av := [.ref (ad (a + 795)), .ref (ad (b + 795))]) (fr := 3) (lo := 121) rfl rfl (by decide) rfl (fw_cpTab (S := cpS ((((([(0, 794, 795, 0, 1)] ++ [(0, 794, 795, 1, 2)]) ++ [(0, 794, 795, 2, 3)]) ++ [(0, 794, 795, 3, 4)]) ++ [(0, 794, 795, 4, 5)]) ++ [(0, 794, 795, 5, 6)]) a b S) hab ha hb (k := 795) (n := 4) (r := 796) (w := 4) (by decide) (by decide +kernel) (by decide +kernel) (by decide +kernel)) rfl ⟨by decide, by decide, by decide, by decide, by decide⟩ rfl (by decide +kernel) ?_
    rw [cpS_app hab]
    refine fw_aload_n (i := 1) C0 l1 (by decide +kernel) ?_
    refine fw_getr C0 (oc := 6) (idx := 26) (q := (26, 6, 7, 23045)) (k := a + 794) rfl rfl (im_N ha (by decide)) (im_kd ha (k := 794) (by decide) (by decide +kernel)) rfl (im_rt ha (q := (794, 7, 7, 800)) (j := 7) (v := 800) (by decide +kernel) (by decide) (by decide) (by decide)) (by decide +kernel) ?_
    refine fw_aload_n (i := 0) C0 l0 (by decide +kernel) ?_
    refine fw_getr C0 (oc := 6) (idx := 26) (q := (26, 6, 7, 23045)) (k := b + 794) rfl rfl (im_N hb (by decide)) (im_kd hb (k := 794) (by decide) (by decide +kernel)) rfl (im_rt hb (q := (794, 7, 7, 800)) (j := 7) (v := 800) (by decide +kernel) (by decide) (by decide) (by decide)) (by decide +kernel) ?_
    refine fw_cS C0 hSt (oc := 6) (idx := 44) (q := (44, 2, 45, 27225)) (y := (⟨"UtilityWorks", "copyRow", "([I[I)V"⟩, prog_1_method_128_code, 2, none, 11, 0, 2, 24105, 24104, 0, 21001)) (av := [.ref (ad (a + 800)), .ref (ad (b + 800))]) (fr := 2) (lo := 100) rfl rfl (by decide) rfl (fw_cpRow (S := cpS (((((([(0, 794, 795, 0, 1)] ++ [(0, 794, 795, 1, 2)]) ++ [(0, 794, 795, 2, 3)]) ++ [(0, 794, 795, 3, 4)]) ++ [(0, 794, 795, 4, 5)]) ++ [(0, 794, 795, 5, 6)]) ++ [(0, 796, 800, 0, 4)]) a b S) hab ha hb (k := 800) (n := 6) (by decide) (by decide +kernel)) rfl ⟨by decide, by decide, by decide, by decide, by decide⟩ rfl (by decide +kernel) ?_
    rw [cpS_app hab]
    exact fw_vret C0 hSt hret (Nat.le_refl _) ⟨rfl, rfl⟩ (by decide +kernel))
def cq_Town : List cq_T := ((((((((([(0, 1, 2, 0, 1)] ++ cq_Grid) ++ cq_Power) ++ cq_Water) ++ cq_Heat) ++ cq_Customers) ++ cq_Books) ++ cq_Crews) ++ cq_Stores) ++ cq_Sky)
theorem Town_cf (hab : a + 803 ≤ b ∨ b + 803 ≤ a) (ha : Im kd N S.2.2 a) (hb : Im kd N S.2.2 b) (hpoor : ∀ i, i < 10 → S.1 (a + 560) i = 0 ∨ S.1 (a + 560) i = 1) (hbo3 : S.1 (a + 794) 3 = 0 ∨ S.1 (a + 794) 3 = 1) (hbo5 : S.1 (a + 794) 5 = 0 ∨ S.1 (a + 794) 5 = 1) : fw_Met l ⟨"UtilityWorks$Town", "copyFrom", "(LUtilityWorks$Town;)V"⟩ prog_10_method_2_code 2 none 5 166 0 D tc ad kd N st [.ref (ad (b + 1)), .ref (ad (a + 1))] S (fun oc S' => oc = .inl none ∧ S' = cpS cq_Town a b S) :=
  fw_ofW (by decide +kernel) (Nat.le_of_ble_eq_true rfl) (fun sz p e s m args below meth c C0 hSt hret hex hname => by
    have l0 : ((0 : Nat), Value.ref (ad (b + 1))) ∈ lv_args 0 [.ref (ad (b + 1)), .ref (ad (a + 1))] := List.mem_cons_self
    have l1 : ((1 : Nat), Value.ref (ad (a + 1))) ∈ lv_args 0 [.ref (ad (b + 1)), .ref (ad (a + 1))] := List.mem_cons_of_mem _ List.mem_cons_self
    refine fw_aload_n (i := 0) C0 l0 (by decide +kernel) ?_
    refine fw_aload_n (i := 1) C0 l1 (by decide +kernel) ?_
    refine fw_geti C0 (oc := 8) (idx := 91) (q := (91, 8, 0, 23067)) (k := a + 1) rfl rfl (im_N ha (by decide)) (im_kd ha (k := 1) (by decide) (by decide +kernel)) rfl (by decide +kernel) ?_
    refine fw_puti C0 hab (oc := 8) (idx := 91) (q := (91, 8, 0, 23067)) (k := 1) (a := a) (b := b) rfl rfl (im_N hb (by decide)) (by decide) (im_kd hb (k := 1) (by decide) (by decide +kernel)) (by decide +kernel) rfl (by decide +kernel) ?_
    refine fw_aload_n (i := 0) C0 l0 (by decide +kernel) ?_
    refine fw_getr C0 (oc := 8) (idx := 21) (q := (21, 8, 2, 23080)) (k := b + 1) rfl rfl (im_N hb (by decide)) (im_kd hb (k := 1) (by decide) (by decide +kernel)) rfl (im_rt hb (q := (1, 2, 2, 8)) (j := 2) (v := 8) (by decide +kernel) (by decide) (by decide) (by decide)) (by decide +kernel) ?_
    refine fw_aload_n (i := 1) C0 l1 (by decide +kernel) ?_
    refine fw_getr C0 (oc := 8) (idx := 21) (q := (21, 8, 2, 23080)) (k := a + 1) rfl rfl (im_N ha (by decide)) (im_kd ha (k := 1) (by decide) (by decide +kernel)) rfl (im_rt ha (q := (1, 2, 2, 8)) (j := 2) (v := 8) (by decide +kernel) (by decide) (by decide) (by decide)) (by decide +kernel) ?_
    refine fw_cV C0 hSt (oc := 8) (idx := 95) (q := (95, 1, 187, 27163)) (y := (⟨"UtilityWorks$Grid", "copyFrom", "(LUtilityWorks$Grid;)V"⟩, prog_5_method_2_code, 2, none, 3, 1, 1, 27166, 27164, 27165, 21004)) (bb := b + 8) (av := [.ref (ad (a + 8))]) (fr := 4) (lo := 143) rfl rfl (by decide) rfl (Grid_cf (S := cpS [(0, 1, 2, 0, 1)] a b S) hab ha hb) (im_N hb (by decide)) (im_kd hb (k := 8) (by decide) (by decide +kernel)) rfl ⟨by decide, by decide, by decide, by decide, by decide⟩ rfl (by decide +kernel) ?_
    rw [cpS_app hab]
    refine fw_aload_n (i := 0) C0 l0 (by decide +kernel) ?_
    refine fw_getr C0 (oc := 8) (idx := 28) (q := (28, 8, 3, 23087)) (k := b + 1) rfl rfl (im_N hb (by decide)) (im_kd hb (k := 1) (by decide) (by decide +kernel)) rfl (im_rt hb (q := (1, 3, 3, 97)) (j := 3) (v := 97) (by decide +kernel) (by decide) (by decide) (by decide)) (by decide +kernel) ?_
    refine fw_aload_n (i := 1) C0 l1 (by decide +kernel) ?_
    refine fw_getr C0 (oc := 8) (idx := 28) (q := (28, 8, 3, 23087)) (k := a + 1) rfl rfl (im_N ha (by decide)) (im_kd ha (k := 1) (by decide) (by decide +kernel)) rfl (im_rt ha (q := (1, 3, 3, 97)) (j := 3) (v := 97) (by decide +kernel) (by decide) (by decide) (by decide)) (by decide +kernel) ?_
    refine fw_cV C0 hSt (oc := 8) (idx := 99) (q := (99, 1, 189, 27172)) (y := (⟨"UtilityWorks$Power", "copyFrom", "(LUtilityWorks$Power;)V"⟩, prog_7_method_2_code, 2, none, 5, 1, 1, 27175, 27173, 27174, 21005)) (bb := b + 97) (av := [.ref (ad (a + 97))]) (fr := 4) (lo := 143) rfl rfl (by decide) rfl (Power_cf (S := cpS ([(0, 1, 2, 0, 1)] ++ cq_Grid) a b S) hab ha hb) (im_N hb (by decide)) (im_kd hb (k := 97) (by decide) (by decide +kernel)) rfl ⟨by decide, by decide, by decide, by decide, by decide⟩ rfl (by decide +kernel) ?_
    rw [cpS_app hab]
    refine fw_aload_n (i := 0) C0 l0 (by decide +kernel) ?_
    refine fw_getr C0 (oc := 8) (idx := 35) (q := (35, 8, 4, 23092)) (k := b + 1) rfl rfl (im_N hb (by decide)) (im_kd hb (k := 1) (by decide) (by decide +kernel)) rfl (im_rt hb (q := (1, 4, 4, 116)) (j := 4) (v := 116) (by decide +kernel) (by decide) (by decide) (by decide)) (by decide +kernel) ?_
    refine fw_aload_n (i := 1) C0 l1 (by decide +kernel) ?_
    refine fw_getr C0 (oc := 8) (idx := 35) (q := (35, 8, 4, 23092)) (k := a + 1) rfl rfl (im_N ha (by decide)) (im_kd ha (k := 1) (by decide) (by decide +kernel)) rfl (im_rt ha (q := (1, 4, 4, 116)) (j := 4) (v := 116) (by decide +kernel) (by decide) (by decide) (by decide)) (by decide +kernel) ?_
    refine fw_cV C0 hSt (oc := 8) (idx := 102) (q := (102, 1, 191, 27181)) (y := (⟨"UtilityWorks$Water", "copyFrom", "(LUtilityWorks$Water;)V"⟩, prog_11_method_2_code, 2, none, 9, 1, 1, 27184, 27182, 27183, 21006)) (bb := b + 116) (av := [.ref (ad (a + 116))]) (fr := 4) (lo := 143) rfl rfl (by decide) rfl (Water_cf (S := cpS (([(0, 1, 2, 0, 1)] ++ cq_Grid) ++ cq_Power) a b S) hab ha hb) (im_N hb (by decide)) (im_kd hb (k := 116) (by decide) (by decide +kernel)) rfl ⟨by decide, by decide, by decide, by decide, by decide⟩ rfl (by decide +kernel) ?_
    rw [cpS_app hab]
    refine fw_aload_n (i := 0) C0 l0 (by decide +kernel) ?_
    refine fw_getr C0 (oc := 8) (idx := 42) (q := (42, 8, 5, 23097)) (k := b + 1) rfl rfl (im_N hb (by decide)) (im_kd hb (k := 1) (by decide) (by decide +kernel)) rfl (im_rt hb (q := (1, 5, 5, 147)) (j := 5) (v := 147) (by decide +kernel) (by decide) (by decide) (by decide)) (by decide +kernel) ?_
    refine fw_aload_n (i := 1) C0 l1 (by decide +kernel) ?_
    refine fw_getr C0 (oc := 8) (idx := 42) (q := (42, 8, 5, 23097)) (k := a + 1) rfl rfl (im_N ha (by decide)) (im_kd ha (k := 1) (by decide) (by decide +kernel)) rfl (im_rt ha (q := (1, 5, 5, 147)) (j := 5) (v := 147) (by decide +kernel) (by decide) (by decide) (by decide)) (by decide +kernel) ?_
    refine fw_cV C0 hSt (oc := 8) (idx := 105) (q := (105, 1, 192, 27187)) (y := (⟨"UtilityWorks$Heat", "copyFrom", "(LUtilityWorks$Heat;)V"⟩, prog_6_method_2_code, 2, none, 4, 1, 1, 27190, 27188, 27189, 21007)) (bb := b + 147) (av := [.ref (ad (a + 147))]) (fr := 4) (lo := 143) rfl rfl (by decide) rfl (Heat_cf (S := cpS ((([(0, 1, 2, 0, 1)] ++ cq_Grid) ++ cq_Power) ++ cq_Water) a b S) hab ha hb) (im_N hb (by decide)) (im_kd hb (k := 147) (by decide) (by decide +kernel)) rfl ⟨by decide, by decide, by decide, by decide, by decide⟩ rfl (by decide +kernel) ?_
    rw [cpS_app hab]
    refine fw_aload_n (i := 0) C0 l0 (by decide +kernel) ?_
    refine fw_getr C0 (oc := 8) (idx := 49) (q := (49, 8, 6, 23102)) (k := b + 1) rfl rfl (im_N hb (by decide)) (im_kd hb (k := 1) (by decide) (by decide +kernel)) rfl (im_rt hb (q := (1, 6, 6, 165)) (j := 6) (v := 165) (by decide +kernel) (by decide) (by decide) (by decide)) (by decide +kernel) ?_
    refine fw_aload_n (i := 1) C0 l1 (by decide +kernel) ?_
    refine fw_getr C0 (oc := 8) (idx := 49) (q := (49, 8, 6, 23102)) (k := a + 1) rfl rfl (im_N ha (by decide)) (im_kd ha (k := 1) (by decide) (by decide +kernel)) rfl (im_rt ha (q := (1, 6, 6, 165)) (j := 6) (v := 165) (by decide +kernel) (by decide) (by decide) (by decide)) (by decide +kernel) ?_
    refine fw_cV C0 hSt (oc := 8) (idx := 108) (q := (108, 1, 193, 27193)) (y := (⟨"UtilityWorks$Customers", "copyFrom", "(LUtilityWorks$Customers;)V"⟩, prog_4_method_2_code, 2, none, 2, 1, 1, 27196, 27194, 27195, 21009)) (bb := b + 165) (av := [.ref (ad (a + 165))]) (fr := 4) (lo := 143) rfl rfl (by decide) rfl (Customers_cf (S := cpS (((([(0, 1, 2, 0, 1)] ++ cq_Grid) ++ cq_Power) ++ cq_Water) ++ cq_Heat) a b S) hab ha hb) (im_N hb (by decide)) (im_kd hb (k := 165) (by decide) (by decide +kernel)) rfl ⟨by decide, by decide, by decide, by decide, by decide⟩ rfl (by decide +kernel) ?_
    rw [cpS_app hab]
    refine fw_aload_n (i := 0) C0 l0 (by decide +kernel) ?_
    refine fw_getr C0 (oc := 8) (idx := 56) (q := (56, 8, 7, 23109)) (k := b + 1) rfl rfl (im_N hb (by decide)) (im_kd hb (k := 1) (by decide) (by decide +kernel)) rfl (im_rt hb (q := (1, 7, 7, 209)) (j := 7) (v := 209) (by decide +kernel) (by decide) (by decide) (by decide)) (by decide +kernel) ?_
    refine fw_aload_n (i := 1) C0 l1 (by decide +kernel) ?_
    refine fw_getr C0 (oc := 8) (idx := 56) (q := (56, 8, 7, 23109)) (k := a + 1) rfl rfl (im_N ha (by decide)) (im_kd ha (k := 1) (by decide) (by decide +kernel)) rfl (im_rt ha (q := (1, 7, 7, 209)) (j := 7) (v := 209) (by decide +kernel) (by decide) (by decide) (by decide)) (by decide +kernel) ?_
    refine fw_cV C0 hSt (oc := 8) (idx := 111) (q := (111, 1, 194, 27199)) (y := (⟨"UtilityWorks$Books", "copyFrom", "(LUtilityWorks$Books;)V"⟩, prog_2_method_3_code, 3, none, 0, 1, 1, 27202, 27200, 27201, 21010)) (bb := b + 209) (av := [.ref (ad (a + 209))]) (fr := 4) (lo := 144) rfl rfl (by decide) rfl (Books_cf (S := cpS ((((([(0, 1, 2, 0, 1)] ++ cq_Grid) ++ cq_Power) ++ cq_Water) ++ cq_Heat) ++ cq_Customers) a b S) hab ha hb (fun i hi => by rw [cpS_a1 hab (by decide)]; exact hpoor i hi)) (im_N hb (by decide)) (im_kd hb (k := 209) (by decide) (by decide +kernel)) rfl ⟨by decide, by decide, by decide, by decide, by decide⟩ rfl (by decide +kernel) ?_
    rw [cpS_app hab]
    refine fw_aload_n (i := 0) C0 l0 (by decide +kernel) ?_
    refine fw_getr C0 (oc := 8) (idx := 63) (q := (63, 8, 8, 23114)) (k := b + 1) rfl rfl (im_N hb (by decide)) (im_kd hb (k := 1) (by decide) (by decide +kernel)) rfl (im_rt hb (q := (1, 8, 8, 572)) (j := 8) (v := 572) (by decide +kernel) (by decide) (by decide) (by decide)) (by decide +kernel) ?_
    refine fw_aload_n (i := 1) C0 l1 (by decide +kernel) ?_
    refine fw_getr C0 (oc := 8) (idx := 63) (q := (63, 8, 8, 23114)) (k := a + 1) rfl rfl (im_N ha (by decide)) (im_kd ha (k := 1) (by decide) (by decide +kernel)) rfl (im_rt ha (q := (1, 8, 8, 572)) (j := 8) (v := 572) (by decide +kernel) (by decide) (by decide) (by decide)) (by decide +kernel) ?_
    refine fw_cV C0 hSt (oc := 8) (idx := 114) (q := (114, 1, 196, 27210)) (y := (⟨"UtilityWorks$Crews", "copyFrom", "(LUtilityWorks$Crews;)V"⟩, prog_3_method_2_code, 2, none, 1, 1, 1, 27213, 27211, 27212, 21011)) (bb := b + 572) (av := [.ref (ad (a + 572))]) (fr := 4) (lo := 143) rfl rfl (by decide) rfl (Crews_cf (S := cpS (((((([(0, 1, 2, 0, 1)] ++ cq_Grid) ++ cq_Power) ++ cq_Water) ++ cq_Heat) ++ cq_Customers) ++ cq_Books) a b S) hab ha hb) (im_N hb (by decide)) (im_kd hb (k := 572) (by decide) (by decide +kernel)) rfl ⟨by decide, by decide, by decide, by decide, by decide⟩ rfl (by decide +kernel) ?_
    rw [cpS_app hab]
    refine fw_aload_n (i := 0) C0 l0 (by decide +kernel) ?_
    refine fw_getr C0 (oc := 8) (idx := 70) (q := (70, 8, 9, 23117)) (k := b + 1) rfl rfl (im_N hb (by decide)) (im_kd hb (k := 1) (by decide) (by decide +kernel)) rfl (im_rt hb (q := (1, 9, 9, 779)) (j := 9) (v := 779) (by decide +kernel) (by decide) (by decide) (by decide)) (by decide +kernel) ?_
    refine fw_aload_n (i := 1) C0 l1 (by decide +kernel) ?_
    refine fw_getr C0 (oc := 8) (idx := 70) (q := (70, 8, 9, 23117)) (k := a + 1) rfl rfl (im_N ha (by decide)) (im_kd ha (k := 1) (by decide) (by decide +kernel)) rfl (im_rt ha (q := (1, 9, 9, 779)) (j := 9) (v := 779) (by decide +kernel) (by decide) (by decide) (by decide)) (by decide +kernel) ?_
    refine fw_cV C0 hSt (oc := 8) (idx := 117) (q := (117, 1, 197, 27215)) (y := (⟨"UtilityWorks$Stores", "copyFrom", "(LUtilityWorks$Stores;)V"⟩, prog_9_method_2_code, 2, none, 7, 1, 1, 27218, 27216, 27217, 21012)) (bb := b + 779) (av := [.ref (ad (a + 779))]) (fr := 4) (lo := 143) rfl rfl (by decide) rfl (Stores_cf (S := cpS ((((((([(0, 1, 2, 0, 1)] ++ cq_Grid) ++ cq_Power) ++ cq_Water) ++ cq_Heat) ++ cq_Customers) ++ cq_Books) ++ cq_Crews) a b S) hab ha hb) (im_N hb (by decide)) (im_kd hb (k := 779) (by decide) (by decide +kernel)) rfl ⟨by decide, by decide, by decide, by decide, by decide⟩ rfl (by decide +kernel) ?_
    rw [cpS_app hab]
    refine fw_aload_n (i := 0) C0 l0 (by decide +kernel) ?_
    refine fw_getr C0 (oc := 8) (idx := 77) (q := (77, 8, 10, 23120)) (k := b + 1) rfl rfl (im_N hb (by decide)) (im_kd hb (k := 1) (by decide) (by decide +kernel)) rfl (im_rt hb (q := (1, 10, 10, 794)) (j := 10) (v := 794) (by decide +kernel) (by decide) (by decide) (by decide)) (by decide +kernel) ?_
    refine fw_aload_n (i := 1) C0 l1 (by decide +kernel) ?_
    refine fw_getr C0 (oc := 8) (idx := 77) (q := (77, 8, 10, 23120)) (k := a + 1) rfl rfl (im_N ha (by decide)) (im_kd ha (k := 1) (by decide) (by decide +kernel)) rfl (im_rt ha (q := (1, 10, 10, 794)) (j := 10) (v := 794) (by decide +kernel) (by decide) (by decide) (by decide)) (by decide +kernel) ?_
    refine fw_cV C0 hSt (oc := 8) (idx := 120) (q := (120, 1, 198, 27220)) (y := (⟨"UtilityWorks$Sky", "copyFrom", "(LUtilityWorks$Sky;)V"⟩, prog_8_method_2_code, 2, none, 6, 1, 1, 27223, 27221, 27222, 21013)) (bb := b + 794) (av := [.ref (ad (a + 794))]) (fr := 4) (lo := 143) rfl rfl (by decide) rfl (Sky_cf (S := cpS (((((((([(0, 1, 2, 0, 1)] ++ cq_Grid) ++ cq_Power) ++ cq_Water) ++ cq_Heat) ++ cq_Customers) ++ cq_Books) ++ cq_Crews) ++ cq_Stores) a b S) hab ha hb (by rw [cpS_a1 hab (by decide)]; exact hbo3) (by rw [cpS_a1 hab (by decide)]; exact hbo5)) (im_N hb (by decide)) (im_kd hb (k := 794) (by decide) (by decide +kernel)) rfl ⟨by decide, by decide, by decide, by decide, by decide⟩ rfl (by decide +kernel) ?_
    rw [cpS_app hab]
    exact fw_vret C0 hSt hret (Nat.le_refl _) ⟨rfl, rfl⟩ (by decide +kernel))
end CF
