/-! ===== the flat world's rows over the heap; contracts; calls ===== -/
/-- the static rows of numbers: class, name, numbers -/
def fw_sn : List (String × String × List Int) := [("UtilityWorks", "LOW", [0, 1, 2, 4, 5, 6, 8, 9, 10, 0, 1, 2, 3, 4, 5, 6, 7]), ("UtilityWorks", "HIGH", [1, 2, 3, 5, 6, 7, 9, 10, 11, 4, 5, 6, 7, 8, 9, 10, 11]),
  ("UtilityWorks", "EXITS", [-1, -1, 0, 9, -1, 0, 1, 10, -1, 1, 2, 11, -1, 2, -1, 12, 9, -1, 3, 13, 10, 3, 4, 14, 11, 4, 5, 15, 12, 5, -1, 16, 13, -1, 6, -1, 14, 6, 7, -1, 15, 7, 8, -1, 16, 8, -1, -1]),
  ("UtilityWorks$Grid", "OLD_LINES", [0, 1, 2, 9, 10, 11, 12, 13, 14, 15, 16]), ("UtilityWorks$Grid", "OLD_PIPES", [0, 1, 2, 9, 10, 13, 14]), ("UtilityWorks$Grid", "OLD_MAINS", [0, 1, 9, 10]),
  ("UtilityWorks$Customers", "OLD", [5, 0, 12, 8, 10, 1, 3, 6, 4, 3, 3, 5, 5, 3, 0, 4, 2, 8, 5, 4, 9, 5, 4, 3, 0, 6, 4, 7, 0, 0]), ("UtilityWorks$Crews", "TAKES", [1, 1, 2, 3, 1, 1, 1]),
  ("UtilityWorks$Stores", "PRICES", [400, 250, 600, 5]), ("UtilityWorks$Stores", "AT_FIRST", [4, 4, 2, 200])]
def fw_sv (l : List Int) : Nat → Value := fun j => .int (Int32.ofInt (l.getD j 0))
/-- the statics: the rows of numbers at st i, and what Throwable's constructor reads -/
def fw_St (st : Nat → Nat) (A : Nat → Prop) (U : State) (H : Heap) : Prop :=
  (∀ (i : Nat) (q : String × String × List Int), fw_sn[i]? = some q → va_Z q.1 q.2.1 "[I" (.ref (st i)) A U H ∧ va_T .int (st i) q.2.2.length (fw_sv q.2.2) A U H) ∧
  vx_Zq Bundle.tN "UNASSIGNED_STACK" Bundle.steD A U H ∧ vx_Zq Bundle.tN "SUPPRESSED_SENTINEL" Bundle.listD A U H
theorem fw_St.go {st : Nat → Nat} {A B : Nat → Prop} {u U : State} {H H1 : Heap} (h : fw_St st A u H) (hvm : u.vm.Alike U.vm) (hq : ∀ a : Nat, a < H.size → ¬ A a → H1[a]? = H[a]?) (hAB : ∀ q, B q → A q) : fw_St st B U H1 :=
  ⟨fun i q hi => ⟨(((h.1 i q hi).1.moved hvm).kept hq).narrow hAB, (((h.1 i q hi).2.moved hvm).kept hq).narrow hAB⟩, ((h.2.1.moved hvm).kept hq).narrow hAB, ((h.2.2.moved hvm).kept hq).narrow hAB⟩
/-- the world in a state, what may change being A -/
def fw_At (D : va_G) (tc : Nat → ClassId) (ad : Nat → Nat) (kd : Nat → Nat × Nat) (N : Nat) (st : Nat → Nat) (A : Nat → Prop) (S : fw_S) (U : State) : Prop :=
  va_P D vwCl (fw_w tc ad kd N S) U.heap ∧ va_K D vwCl (fw_ts tc) U ∧ va_D A (fw_w tc ad kd N S) ∧ fw_St st A U U.heap
/-- what a method may change: the world, and what is made -/
def fw_Af (ad : Nat → Nat) (N sz : Nat) : Nat → Prop := fun q => (∃ k, k < N ∧ q = ad k) ∨ sz ≤ q
/-- the end of a method: an answer, or the name of an exception's class -/
abbrev fw_O : Type := Option Value ⊕ String
def fw_Q (D : va_G) (tc : Nat → ClassId) (ad : Nat → Nat) (kd : Nat → Nat × Nat) (N : Nat) (st : Nat → Nat) (A : Nat → Prop) (Post : fw_O → fw_S → Prop) : Array Value → State → Outcome → State → Prop := fun _ s0 oc t =>
  (∃ (r : Option Value) (S' : fw_S), oc = .returned r ∧ Post (.inl r) S' ∧ fw_At D tc ad kd N st A S' t) ∧ va_F A s0 t
def fw_X (D : va_G) (tc : Nat → ClassId) (ad : Nat → Nat) (kd : Nat → Nat × Nat) (N : Nat) (st : Nat → Nat) (A : Nat → Prop) (Post : fw_O → fw_S → Prop) : String → State → State → Prop := fun E s0 t =>
  (∃ S' : fw_S, Post (.inr E) S' ∧ fw_At D tc ad kd N st A S' t) ∧ va_F A s0 t
def fw_rm (fr lo mc : Nat) : Room := { frames := fr, cells := mc, slots := 6 * mc, locals := lo }
/-- a method's contract on the flat world, for given arguments and contents -/
def fw_Met (l : Launch) (y : MethodName) (cc : ByteArray) (maxL : Nat) (ret : Option FieldType) (fr lo mc : Nat) (D : va_G) (tc : Nat → ClassId) (ad : Nat → Nat) (kd : Nat → Nat × Nat) (N : Nat) (st : Nat → Nat) (av : List Value) (S : fw_S) (Post : fw_O → fw_S → Prop) : Prop :=
  ∀ sz : Nat, vx_Met l y (.code y cc maxL ret :: fw_AW) (fw_rm fr lo mc) (va_Pc av (fun U => U.heap.size = sz ∧ fw_At D tc ad kd N st (fw_Af ad N sz) S U ∧ ∀ w ∈ fw_NW, va_Nw w U)) (fw_Q D tc ad kd N st (fw_Af ad N sz) Post) (fw_X D tc ad kd N st (fw_Af ad N sz) Post) mc (6 * mc) (fw_Af ad N sz)
section FH
variable {p : Program} {l : Launch} {e : Env} {R : Room} {s : State} {m : MethodId} {args : Array Value} {below : List Frame} {meth : Method} {c : Code} {Q : State → Prop}
variable {D : va_G} {tc : Nat → ClassId} {ad : Nat → Nat} {kd : Nat → Nat × Nat} {N nL : Nat} {A : Nat → Prop} {own : String} {cc : ByteArray} {st : Nat → Nat}
variable {pc n : Nat} {lv : List (Nat × Value)} {rest : List Value} {S : fw_S} {k n0 : Nat}
theorem fw_iaload (C0 : fw_C p s m args meth c D tc A own cc nL) {i : Int32} (hk : k < N) (hkd : kd k = (0, n0)) (hin : vp_in i n0) (hdg : decode cc pc = .ok (.iaload, 1))
    (kk : fw_W p l e R s m args below meth c Q D tc ad kd N nL A (pc + 1) lv (.int (S.1 k i.toNatClampNeg) :: rest) S n) : fw_W p l e R s m args below meth c Q D tc ad kd N nL A pc lv (.int i :: .ref (ad k) :: rest) S n :=
  fun H locs ls cells slots h1 h2 hP hD hS hl => va_iald C0.1 C0.2.1 C0.2.2.2.2.2.1 hP k 0 (cA := tc 0) (n := n0) (f := S.1 k) (by rw [fw_w_at hk, hkd]; rfl) rfl hin hdg (kk H locs ls cells slots h1 h2 hP hD hS hl)
theorem fw_baload (C0 : fw_C p s m args meth c D tc A own cc nL) {i : Int32} (hk : k < N) (hkd : kd k = (2, n0)) (hin : vp_in i n0) (hdg : decode cc pc = .ok (.baload, 1))
    (kk : fw_W p l e R s m args below meth c Q D tc ad kd N nL A (pc + 1) lv (.int (S.1 k i.toNatClampNeg) :: rest) S n) : fw_W p l e R s m args below meth c Q D tc ad kd N nL A pc lv (.int i :: .ref (ad k) :: rest) S n :=
  fun H locs ls cells slots h1 h2 hP hD hS hl => va_zald C0.1 C0.2.1 C0.2.2.2.2.2.1 hP k 2 (cA := tc 2) (n := n0) (f := S.1 k) (by rw [fw_w_at hk, hkd]; rfl) rfl hin hdg (kk H locs ls cells slots h1 h2 hP hD hS hl)
theorem fw_laload (C0 : fw_C p s m args meth c D tc A own cc nL) {i : Int32} (hk : k < N) (hkd : kd k = (1, n0)) (hin : vp_in i n0) (hdg : decode cc pc = .ok (.laload, 1))
    (kk : fw_W p l e R s m args below meth c Q D tc ad kd N nL A (pc + 1) lv (.long (S.2.1 k i.toNatClampNeg) :: rest) S n) : fw_W p l e R s m args below meth c Q D tc ad kd N nL A pc lv (.int i :: .ref (ad k) :: rest) S n :=
  fun H locs ls cells slots h1 h2 hP hD hS hl => va_lald C0.1 C0.2.1 C0.2.2.2.2.2.1 hP k 1 (cA := tc 1) (n := n0) (f := S.2.1 k) (by rw [fw_w_at hk, hkd]; rfl) rfl hin hdg (kk H locs ls cells slots h1 h2 hP hD hS hl)
/-- a row out of a row of rows -/
theorem fw_aaload (C0 : fw_C p s m args meth c D tc A own cc nL) {i : Int32} {z : Nat} (hz : z = 3 ∨ z = 4 ∨ z = 5) (hk : k < N) (hkd : kd k = (z, n0)) (hin : vp_in i n0) (hdg : decode cc pc = .ok (.aaload, 1))
    (kk : fw_W p l e R s m args below meth c Q D tc ad kd N nL A (pc + 1) lv (va_rf ((S.2.2 k i.toNatClampNeg).map ad) :: rest) S n) : fw_W p l e R s m args below meth c Q D tc ad kd N nL A pc lv (.int i :: .ref (ad k) :: rest) S n := by
  intro H locs ls cells slots h1 h2 hP hD hS hl
  have hlt : i.toNatClampNeg < n0 := Nat.not_le.mp fun q => hin (Or.inr q)
  have go : ∀ (ty : FieldType) (t0 : Nat), ty.isReference = true → (fw_ts tc)[t0]? = some (tc t0, ty) → fw_e tc ad (kd k) S k = .inl (tc t0, n0, .inr (.inr (.inr (.inr (fun j => (S.2.2 k j).map ad))))) → W p l e R s m args below meth c H locs cells slots Q (F0 m pc ls (.int i :: .ref (ad k) :: rest)) := by
    intro ty t0 hr ht he
    have ha : (fw_w tc ad kd N S)[k]? = some (ad k, .inl (tc t0, n0, .inr (.inr (.inr (.inr (fun j => (S.2.2 k j).map ad)))))) := by rw [fw_w_at hk, he]
    exact W.aald (v := va_rf ((S.2.2 k i.toNatClampNeg).map ad)) (ty := ty) C0.1 C0.2.1 (hP k _ ha) ((C0.2.2.2.2.2.1.2 t0 _ ht).1 n0 (fun j => va_rf ((S.2.2 k j).map ad))) hr (fun q => by cases q) (by show ¬ (i < 0 ∨ (arrV _ _ _).slots.size ≤ _); rw [arrV_size]; exact hin) (by show (arrV _ _ _).slots[_]? = _; rw [arrV_read _ _ hlt]) rfl rfl hdg (kk H locs ls cells slots h1 h2 hP hD hS hl)
  rcases hz with rfl | rfl | rfl
  · exact go (.array .int) 3 rfl rfl (by rw [hkd]; rfl)
  · exact go (.array .long) 4 rfl rfl (by rw [hkd]; rfl)
  · exact go (.object RX8) 5 rfl rfl (by rw [hkd]; rfl)
theorem fw_iastore (C0 : fw_C p s m args meth c D tc A own cc nL) {i x : Int32} (hk : k < N) (hkd : kd k = (0, n0)) (hin : vp_in i n0) (hdg : decode cc pc = .ok (.iastore, 1))
    (kk : fw_W p l e R s m args below meth c Q D tc ad kd N nL A (pc + 1) lv rest (fw_i S k i.toNatClampNeg x) n) : fw_W p l e R s m args below meth c Q D tc ad kd N nL A pc lv (.int x :: .int i :: .ref (ad k) :: rest) S n :=
  fun H locs ls cells slots h1 h2 hP hD hS hl => va_iast C0.1 C0.2.1 C0.2.2.2.2.2.1 hP hD hS k 0 (cA := tc 0) (n := n0) (f := S.1 k) (by rw [fw_w_at hk, hkd]; rfl) rfl hin hdg
    (fun H1 locs1 hP1 hD1 hS1 => by
      rw [fw_w_i (j := i.toNatClampNeg) (x := x) hk (by rw [hkd]; simp only [fw_e, fw_i_at])] at hP1 hD1
      exact kk H1 locs1 ls cells slots h1 h2 hP1 hD1 hS1 hl)
theorem fw_bastore (C0 : fw_C p s m args meth c D tc A own cc nL) {i x : Int32} (hk : k < N) (hkd : kd k = (2, n0)) (hin : vp_in i n0) (hdg : decode cc pc = .ok (.bastore, 1))
    (kk : fw_W p l e R s m args below meth c Q D tc ad kd N nL A (pc + 1) lv rest (fw_i S k i.toNatClampNeg (vp_nar .boolean x)) n) : fw_W p l e R s m args below meth c Q D tc ad kd N nL A pc lv (.int x :: .int i :: .ref (ad k) :: rest) S n :=
  fun H locs ls cells slots h1 h2 hP hD hS hl => va_zast C0.1 C0.2.1 C0.2.2.2.2.2.1 hP hD hS k 2 (cA := tc 2) (n := n0) (f := S.1 k) (by rw [fw_w_at hk, hkd]; rfl) rfl hin hdg
    (fun H1 locs1 hP1 hD1 hS1 => by
      rw [fw_w_i (j := i.toNatClampNeg) (x := vp_nar .boolean x) hk (by rw [hkd]; simp only [fw_e, fw_i_at])] at hP1 hD1
      exact kk H1 locs1 ls cells slots h1 h2 hP1 hD1 hS1 hl)
theorem fw_lastore (C0 : fw_C p s m args meth c D tc A own cc nL) {i : Int32} {x : Int64} (hk : k < N) (hkd : kd k = (1, n0)) (hin : vp_in i n0) (hdg : decode cc pc = .ok (.lastore, 1))
    (kk : fw_W p l e R s m args below meth c Q D tc ad kd N nL A (pc + 1) lv rest (fw_l S k i.toNatClampNeg x) n) : fw_W p l e R s m args below meth c Q D tc ad kd N nL A pc lv (.long x :: .int i :: .ref (ad k) :: rest) S n :=
  fun H locs ls cells slots h1 h2 hP hD hS hl => va_last C0.1 C0.2.1 C0.2.2.2.2.2.1 hP hD hS k 1 (cA := tc 1) (n := n0) (f := S.2.1 k) (by rw [fw_w_at hk, hkd]; rfl) rfl hin hdg
    (fun H1 locs1 hP1 hD1 hS1 => by
      rw [fw_w_l (j := i.toNatClampNeg) (x := x) hk (by rw [hkd]; simp only [fw_e, fw_l_at])] at hP1 hD1
      exact kk H1 locs1 ls cells slots h1 h2 hP1 hD1 hS1 hl)
theorem fw_alen (C0 : fw_C p s m args meth c D tc A own cc nL) {z : Nat} (hz : z < 6) (hk : k < N) (hkd : kd k = (z, n0)) (hdg : decode cc pc = .ok (.arraylength, 1))
    (kk : fw_W p l e R s m args below meth c Q D tc ad kd N nL A (pc + 1) lv (.int (Int32.ofNat n0) :: rest) S n) : fw_W p l e R s m args below meth c Q D tc ad kd N nL A pc lv (.ref (ad k) :: rest) S n := by
  intro H locs ls cells slots h1 h2 hP hD hS hl
  have go : ∀ (t0 : Nat) (ty : FieldType) (x : vp_A), (fw_ts tc)[t0]? = some (tc t0, ty) → fw_e tc ad (kd k) S k = .inl (tc t0, x) → x.1 = n0 → W p l e R s m args below meth c H locs cells slots Q (F0 m pc ls (.ref (ad k) :: rest)) := by
    intro t0 ty x ht he hx
    exact va_alen C0.1 C0.2.1 C0.2.2.2.2.2.1 hP k t0 (cA := tc t0) (x := x) (by rw [fw_w_at hk, he]) ht (by rw [hx]) hdg (kk H locs ls cells slots h1 h2 hP hD hS hl)
  match z, hz with
  | 0, _ => exact go 0 _ _ rfl (by rw [hkd]; rfl) rfl
  | 1, _ => exact go 1 _ _ rfl (by rw [hkd]; rfl) rfl
  | 2, _ => exact go 2 _ _ rfl (by rw [hkd]; rfl) rfl
  | 3, _ => exact go 3 _ _ rfl (by rw [hkd]; rfl) rfl
  | 4, _ => exact go 4 _ _ rfl (by rw [hkd]; rfl) rfl
  | 5, _ => exact go 5 _ _ rfl (by rw [hkd]; rfl) rfl
theorem fw_getfield (C0 : fw_C p s m args meth c D tc A own cc nL) {ci j index : Nat} {C : String} {T : u_T} (hk : k < N) (hkd : kd k = (ci + 6, n0)) (hc : vwCl[ci]? = some (C, T, n0)) (hj : j < n0) (hin : ∀ w ∈ u_ws C T n0, w ∈ fw_AW) (hlink : Cond.fieldLink own index (T j).1 (T j).2.1 (T j).2.2.1 ∈ fw_AW) (hdg : decode cc pc = .ok (.getfield index, 3))
    (kk : fw_W p l e R s m args below meth c Q D tc ad kd N nL A (pc + 3) lv (fw_v ad S k j (fw_fk (fw_ty ci j)) :: rest) S n) : fw_W p l e R s m args below meth c Q D tc ad kd N nL A pc lv (.ref (ad k) :: rest) S n :=
  fun H locs ls cells slots h1 h2 hP hD hS hl => va_get C0.1 C0.2.1 C0.2.2.2.2.1 hin C0.2.2.2.1 C0.2.2.2.2.2.1 hP k (fs := (List.range n0).map (fun j => fw_v ad S k j (fw_fk (fw_ty ci j)))) (by rw [fw_w_at hk, hkd]; rfl) hc j hj (C0.2.2.2.2.1 _ hlink) (fun _ h => h) (fw_fld hj) hdg (kk H locs ls cells slots h1 h2 hP hD hS hl)
/-- a number into a field that isn't final -/
theorem fw_putfield (C0 : fw_C p s m args meth c D tc A own cc nL) {ci j index : Nat} {C : String} {T : u_T} {S' : fw_S} {v : Value} (hk : k < N) (hkd : kd k = (ci + 6, n0)) (hc : vwCl[ci]? = some (C, T, n0)) (hj : j < n0) (hin : ∀ w ∈ u_ws C T n0, w ∈ fw_AW) (hty : ∀ k, k < n0 → parseFieldDescriptor (T k).2.2.1 = some (fw_ty ci k)) (hnm : ∀ a, a < n0 → ∀ b, b < n0 → a ≠ b → (T a).2.1 ≠ (T b).2.1) (hlink : Cond.fieldLink own index (T j).1 (T j).2.1 (T j).2.2.1 ∈ fw_AW) (hfin : (T j).2.2.2 = false)
    (hn : narrow (fw_ty ci j) v = v) (hf : fits (fw_ty ci j) v = true) (hv : fw_v ad S' k j (fw_fk (fw_ty ci j)) = v) (ho : ∀ i, i ≠ j → fw_v ad S' k i (fw_fk (fw_ty ci i)) = fw_v ad S k i (fw_fk (fw_ty ci i))) (ha : ∀ a, a ≠ k → fw_e tc ad (kd a) S' a = fw_e tc ad (kd a) S a) (hdg : decode cc pc = .ok (.putfield index, 3))
    (kk : fw_W p l e R s m args below meth c Q D tc ad kd N nL A (pc + 3) lv rest S' n) : fw_W p l e R s m args below meth c Q D tc ad kd N nL A pc lv (v :: .ref (ad k) :: rest) S n :=
  fun H locs ls cells slots h1 h2 hP hD hS hl => va_put C0.1 C0.2.1 C0.2.2.2.2.1 hin (fw_ty ci) hty hnm C0.2.2.2.1 C0.2.2.2.2.2.1 hP hD hS k (fs := (List.range n0).map (fun j => fw_v ad S k j (fw_fk (fw_ty ci j)))) (by rw [fw_w_at hk, hkd]; rfl) hc j hj (C0.2.2.2.2.1 _ hlink) (fun _ h => h) hfin (hty j hj) hn hf (by simpa using hj) hdg
    (fun H1 locs1 hP1 hD1 hS1 => by
      rw [fw_fset hv ho, fw_w_set (S' := S') hk (by rw [hkd]; rfl) ha] at hP1 hD1
      exact kk H1 locs1 ls cells slots h1 h2 hP1 hD1 hS1 hl)
end FH
