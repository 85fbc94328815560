/-! ===== A FLAT WORLD: cells 0 .. N-1 at addresses ad k, of kinds kd k = (code, length), with contents S =====
code 0 int[], 1 long[], 2 boolean[], 3 int[][], 4 long[][], 5 Town[], 6 + c an object of class c -/
abbrev vwCl : List vw_C := [(RX0, TX0, 11), (RX1, TX1, 4), (RX2, TX2, 4), (RX3, TX3, 4), (RX4, TX4, 15), (RX5, TX5, 17), (RX6, TX6, 8), (RX7, TX7, 2), (RX8, TX8, 16), (RX9, TX9, 18), (RX10, TX10, 6), (RX11, TX11, 2), (RX12, TX12, 69)]
abbrev fw_S : Type := (Nat → Nat → Int32) × (Nat → Nat → Int64) × (Nat → Nat → Option Nat)
/-- the kind of a field: 0 int or boolean, 1 long, 2 a reference -/
def fw_fk (t : FieldType) : Nat := match t with
  | .int => 0
  | .boolean => 0
  | .long => 1
  | _ => 2
def fw_ty (ci : Nat) : Nat → FieldType := match ci with
  | 0 => tyX0
  | 1 => tyX1
  | 2 => tyX2
  | 3 => tyX3
  | 4 => tyX4
  | 5 => tyX5
  | 6 => tyX6
  | 7 => tyX7
  | 8 => tyX8
  | 9 => tyX9
  | 10 => tyX10
  | 11 => tyX11
  | _ => tyX12
def fw_v (ad : Nat → Nat) (S : fw_S) (k j t : Nat) : Value := match t with
  | 0 => .int (S.1 k j)
  | 1 => .long (S.2.1 k j)
  | _ => va_rf ((S.2.2 k j).map ad)
def fw_e (tc : Nat → ClassId) (ad : Nat → Nat) (q : Nat × Nat) (S : fw_S) (k : Nat) : va_E := match q.1 with
  | 0 => .inl (tc 0, q.2, .inl (S.1 k))
  | 1 => .inl (tc 1, q.2, .inr (.inl (S.2.1 k)))
  | 2 => .inl (tc 2, q.2, .inl (S.1 k))
  | 3 => .inl (tc 3, q.2, .inr (.inr (.inr (.inr (fun j => (S.2.2 k j).map ad)))))
  | 4 => .inl (tc 4, q.2, .inr (.inr (.inr (.inr (fun j => (S.2.2 k j).map ad)))))
  | 5 => .inl (tc 5, q.2, .inr (.inr (.inr (.inr (fun j => (S.2.2 k j).map ad)))))
  | n + 6 => .inr (n, (List.range q.2).map (fun j => fw_v ad S k j (fw_fk (fw_ty n j))))
def fw_w (tc : Nat → ClassId) (ad : Nat → Nat) (kd : Nat → Nat × Nat) (N : Nat) (S : fw_S) : va_W := (List.range N).map fun k => (ad k, fw_e tc ad (kd k) S k)
def fw_ts (tc : Nat → ClassId) : List (ClassId × FieldType) := [(tc 0, .int), (tc 1, .long), (tc 2, .boolean), (tc 3, .array .int), (tc 4, .array .long), (tc 5, .object RX8)]
/-- contents changed at one place -/
def fw_i (S : fw_S) (k j : Nat) (x : Int32) : fw_S := (fun a b => if a = k ∧ b = j then x else S.1 a b, S.2)
def fw_l (S : fw_S) (k j : Nat) (x : Int64) : fw_S := (S.1, fun a b => if a = k ∧ b = j then x else S.2.1 a b, S.2.2)
def fw_r (S : fw_S) (k j : Nat) (x : Option Nat) : fw_S := (S.1, S.2.1, fun a b => if a = k ∧ b = j then x else S.2.2 a b)
theorem fw_w_len (tc : Nat → ClassId) (ad : Nat → Nat) (kd : Nat → Nat × Nat) (N : Nat) (S : fw_S) : (fw_w tc ad kd N S).length = N := by simp [fw_w]
theorem fw_w_at {tc : Nat → ClassId} {ad : Nat → Nat} {kd : Nat → Nat × Nat} {N k : Nat} {S : fw_S} (h : k < N) : (fw_w tc ad kd N S)[k]? = some (ad k, fw_e tc ad (kd k) S k) := by
  unfold fw_w
  rw [List.getElem?_map, List.getElem?_range h]
  rfl
theorem fw_w_set {tc : Nat → ClassId} {ad : Nat → Nat} {kd : Nat → Nat × Nat} {N k : Nat} {S S' : fw_S} {e : va_E} (h : k < N) (he : fw_e tc ad (kd k) S' k = e) (ho : ∀ a, a ≠ k → fw_e tc ad (kd a) S' a = fw_e tc ad (kd a) S a) : (fw_w tc ad kd N S).set k (ad k, e) = fw_w tc ad kd N S' := by
  apply List.ext_getElem?
  intro i
  by_cases hi : i < N
  · rw [fw_w_at hi, List.getElem?_set]
    by_cases hk : k = i
    · subst hk
      rw [if_pos rfl, if_pos (by rw [fw_w_len]; exact h), he]
    · rw [if_neg hk, fw_w_at hi, ho i (fun q => hk q.symm)]
  · rw [List.getElem?_eq_none (by rw [List.length_set, fw_w_len]; omega), List.getElem?_eq_none (by rw [fw_w_len]; omega)]
theorem fw_e_off {tc : Nat → ClassId} {ad : Nat → Nat} {q : Nat × Nat} {S S' : fw_S} {k : Nat} (h1 : S'.1 k = S.1 k) (h2 : S'.2.1 k = S.2.1 k) (h3 : S'.2.2 k = S.2.2 k) : fw_e tc ad q S' k = fw_e tc ad q S k := by
  obtain ⟨t, n⟩ := q
  match t with
  | 0 => simp only [fw_e, h1]
  | 1 => simp only [fw_e, h2]
  | 2 => simp only [fw_e, h1]
  | 3 => simp only [fw_e, h3]
  | 4 => simp only [fw_e, h3]
  | 5 => simp only [fw_e, h3]
  | n + 6 =>
    simp only [fw_e]
    congr 2
    apply List.map_congr_left
    intro j _
    unfold fw_v
    split <;> simp only [h1, h2, h3]
theorem fw_i_off {S : fw_S} {k j a : Nat} {x : Int32} (h : a ≠ k) : (fw_i S k j x).1 a = S.1 a := by
  funext b
  simp [fw_i, h]
theorem fw_l_off {S : fw_S} {k j a : Nat} {x : Int64} (h : a ≠ k) : (fw_l S k j x).2.1 a = S.2.1 a := by
  funext b
  simp [fw_l, h]
theorem fw_r_off {S : fw_S} {k j a : Nat} {x : Option Nat} (h : a ≠ k) : (fw_r S k j x).2.2 a = S.2.2 a := by
  funext b
  simp [fw_r, h]
theorem fw_i_at {S : fw_S} {k j : Nat} {x : Int32} : (fw_i S k j x).1 k = upd (S.1 k) j x := by
  funext b
  simp [fw_i, upd]
theorem fw_l_at {S : fw_S} {k j : Nat} {x : Int64} : (fw_l S k j x).2.1 k = vp_updL (S.2.1 k) j x := by
  funext b
  simp [fw_l, vp_updL]
theorem fw_w_i {tc : Nat → ClassId} {ad : Nat → Nat} {kd : Nat → Nat × Nat} {N k j : Nat} {S : fw_S} {x : Int32} {e : va_E} (h : k < N) (he : fw_e tc ad (kd k) (fw_i S k j x) k = e) : (fw_w tc ad kd N S).set k (ad k, e) = fw_w tc ad kd N (fw_i S k j x) :=
  fw_w_set h he fun a ha => fw_e_off (fw_i_off ha) rfl rfl
theorem fw_w_l {tc : Nat → ClassId} {ad : Nat → Nat} {kd : Nat → Nat × Nat} {N k j : Nat} {S : fw_S} {x : Int64} {e : va_E} (h : k < N) (he : fw_e tc ad (kd k) (fw_l S k j x) k = e) : (fw_w tc ad kd N S).set k (ad k, e) = fw_w tc ad kd N (fw_l S k j x) :=
  fw_w_set h he fun a ha => fw_e_off rfl (fw_l_off ha) rfl
theorem fw_w_r {tc : Nat → ClassId} {ad : Nat → Nat} {kd : Nat → Nat × Nat} {N k j : Nat} {S : fw_S} {x : Option Nat} {e : va_E} (h : k < N) (he : fw_e tc ad (kd k) (fw_r S k j x) k = e) : (fw_w tc ad kd N S).set k (ad k, e) = fw_w tc ad kd N (fw_r S k j x) :=
  fw_w_set h he fun a ha => fw_e_off rfl rfl (fw_r_off ha)
/-- all words of the tables that hold anywhere -/
def fw_AW : List Cond := lw_tbl.filter goodWord
/-- a word on a private member of a nest mate: these are kept by a row of their own -/
def fw_nest : Cond → Bool
  | .fieldLinkNest .. => true
  | .methodLinkNest .. => true
  | .declares _ => true
  | .castable .. => true
  | _ => false
def fw_NW : List Cond := lw_tbl.filter fw_nest
theorem fw_Nw_go {s U : State} (hW : s.WarmedH U.vm) (h : ∀ w ∈ fw_NW, va_Nw w s) : ∀ w ∈ fw_NW, va_Nw w U := by
  intro w hw
  have h1 := h w hw
  have h2 := (List.mem_filter.mp hw).2
  cases w <;> first | exact absurd h2 (by decide) | exact va_Nw.warmF hW h1 | exact va_Nw.warmM hW h1 | exact va_Nw.warmD hW h1 | exact va_Nw.warmC hW h1 | simp [fw_nest] at h2
/-- a field of an object, read off its list -/
theorem fw_fld {ad : Nat → Nat} {S : fw_S} {k j n ci : Nat} (h : j < n) : ((List.range n).map (fun j => fw_v ad S k j (fw_fk (fw_ty ci j))))[j]? = some (fw_v ad S k j (fw_fk (fw_ty ci j))) := by
  rw [List.getElem?_map, List.getElem?_range h]
  rfl
theorem fw_fset {ad : Nat → Nat} {S S' : fw_S} {k j n ci : Nat} {v : Value} (hv : fw_v ad S' k j (fw_fk (fw_ty ci j)) = v) (ho : ∀ i, i ≠ j → fw_v ad S' k i (fw_fk (fw_ty ci i)) = fw_v ad S k i (fw_fk (fw_ty ci i))) : ((List.range n).map (fun j => fw_v ad S k j (fw_fk (fw_ty ci j)))).set j v = (List.range n).map (fun j => fw_v ad S' k j (fw_fk (fw_ty ci j))) := by
  apply List.ext_getElem?
  intro i
  by_cases hi : i < n
  · rw [List.getElem?_set, fw_fld (S := S') hi]
    by_cases hj : j = i
    · subst hj
      rw [if_pos rfl, if_pos (by simpa using hi), hv]
    · rw [if_neg hj, fw_fld (S := S) hi, ho i (fun q => hj q.symm)]
  · rw [List.getElem?_eq_none (by simp; omega), List.getElem?_eq_none (by simp; omega)]

section FW
variable {p : Program} {l : Launch} {e : Env} {R : Room} {s : State} {m : MethodId} {args : Array Value} {below : List Frame} {meth : Method} {c : Code} {Q : State → Prop}
variable {D : va_G} {tc : Nat → ClassId} {ad : Nat → Nat} {kd : Nat → Nat × Nat} {N nL : Nat} {A : Nat → Prop} {own : String} {cc : ByteArray}
/-- what a body stands on: the machine, its code, its class, the words, the classes -/
def fw_C (p : Program) (s : State) (m : MethodId) (args : Array Value) (meth : Method) (c : Code) (D : va_G) (tc : Nat → ClassId) (A : Nat → Prop) (own : String) (cc : ByteArray) (nL : Nat) : Prop :=
  p.tables.exec = Jvm.exec ∧ c.code = cc ∧ c.maxLocals = nL ∧ s.vm.findClass own = some m.cls ∧ (∀ w ∈ fw_AW, w.before args s = true) ∧ va_K D vwCl (fw_ts tc) s ∧ meth.locks = false ∧ (∀ q, s.heap.size ≤ q → A q) ∧ ∀ w ∈ fw_NW, va_Nw w s
/-- the machine at pc, with locals lv, operands st, contents S, at most n exceptions made: it comes to Q -/
def fw_W (p : Program) (l : Launch) (e : Env) (R : Room) (s : State) (m : MethodId) (args : Array Value) (below : List Frame) (meth : Method) (c : Code) (Q : State → Prop) (D : va_G) (tc : Nat → ClassId) (ad : Nat → Nat) (kd : Nat → Nat × Nat) (N nL : Nat) (A : Nat → Prop) (pc : Nat) (lv : List (Nat × Value)) (st : List Value) (S : fw_S) (n : Nat) : Prop :=
  ∀ (H : Heap) (locs : List Loc) (ls : Array Slot) (cells slots : Nat), cells ≤ n → slots ≤ 6 * n → va_P D vwCl (fw_w tc ad kd N S) H → va_D A (fw_w tc ad kd N S) → va_S A s.heap H locs → lv_has ls nL lv →
    W p l e R s m args below meth c H locs cells slots Q (F0 m pc ls st)

theorem fw_iconst (C0 : fw_C p s m args meth c D tc A own cc nL) {pc n : Nat} {lv : List (Nat × Value)} {rest : List Value} {S : fw_S} {n0 : Int} (hdg : decode cc pc = .ok (.iconst n0, 1))
    (k : fw_W p l e R s m args below meth c Q D tc ad kd N nL A (pc + 1) lv (.int (Int32.ofInt n0) :: rest) S n) : fw_W p l e R s m args below meth c Q D tc ad kd N nL A pc lv (rest) S n :=
  fun H locs ls cells slots h1 h2 hP hD hS hl => lv_iconst C0.1 C0.2.1 hdg rfl (k H locs ls cells slots h1 h2 hP hD hS hl)
theorem fw_bipush (C0 : fw_C p s m args meth c D tc A own cc nL) {pc n : Nat} {lv : List (Nat × Value)} {rest : List Value} {S : fw_S} {n0 : Int} (hdg : decode cc pc = .ok (.bipush n0, 2))
    (k : fw_W p l e R s m args below meth c Q D tc ad kd N nL A (pc + 2) lv (.int (Int8.ofInt n0).toInt32 :: rest) S n) : fw_W p l e R s m args below meth c Q D tc ad kd N nL A pc lv (rest) S n :=
  fun H locs ls cells slots h1 h2 hP hD hS hl => lv_bipush C0.1 C0.2.1 hdg rfl (k H locs ls cells slots h1 h2 hP hD hS hl)
theorem fw_sipush (C0 : fw_C p s m args meth c D tc A own cc nL) {pc n : Nat} {lv : List (Nat × Value)} {rest : List Value} {S : fw_S} {n0 : Int} (hdg : decode cc pc = .ok (.sipush n0, 3))
    (k : fw_W p l e R s m args below meth c Q D tc ad kd N nL A (pc + 3) lv (.int (Int16.ofInt n0).toInt32 :: rest) S n) : fw_W p l e R s m args below meth c Q D tc ad kd N nL A pc lv (rest) S n :=
  fun H locs ls cells slots h1 h2 hP hD hS hl => lv_sipush C0.1 C0.2.1 hdg rfl (k H locs ls cells slots h1 h2 hP hD hS hl)
theorem fw_lconst (C0 : fw_C p s m args meth c D tc A own cc nL) {pc n : Nat} {lv : List (Nat × Value)} {rest : List Value} {S : fw_S} {n0 : Fin 2} (hdg : decode cc pc = .ok (.lconst n0, 1))
    (k : fw_W p l e R s m args below meth c Q D tc ad kd N nL A (pc + 1) lv (.long (Int64.ofNat (n0 : Nat)) :: rest) S n) : fw_W p l e R s m args below meth c Q D tc ad kd N nL A pc lv (rest) S n :=
  fun H locs ls cells slots h1 h2 hP hD hS hl => lv_lconst C0.1 C0.2.1 hdg rfl (k H locs ls cells slots h1 h2 hP hD hS hl)
theorem fw_ldc (C0 : fw_C p s m args meth c D tc A own cc nL) {pc n : Nat} {lv : List (Nat × Value)} {rest : List Value} {S : fw_S} {index : Nat} {v : Int32} (hc : Cond.constant own index v ∈ fw_AW) (hdg : decode cc pc = .ok (.ldc index, 2))
    (k : fw_W p l e R s m args below meth c Q D tc ad kd N nL A (pc + 2) lv (.int v :: rest) S n) : fw_W p l e R s m args below meth c Q D tc ad kd N nL A pc lv (rest) S n :=
  fun H locs ls cells slots h1 h2 hP hD hS hl => lv_ldc C0.1 C0.2.1 C0.2.2.2.1 (C0.2.2.2.2.1 _ hc) hdg (k H locs ls cells slots h1 h2 hP hD hS hl)
theorem fw_ldcw (C0 : fw_C p s m args meth c D tc A own cc nL) {pc n : Nat} {lv : List (Nat × Value)} {rest : List Value} {S : fw_S} {index : Nat} {v : Int32} (hc : Cond.constant own index v ∈ fw_AW) (hdg : decode cc pc = .ok (.ldc_w index, 3))
    (k : fw_W p l e R s m args below meth c Q D tc ad kd N nL A (pc + 3) lv (.int v :: rest) S n) : fw_W p l e R s m args below meth c Q D tc ad kd N nL A pc lv (rest) S n :=
  fun H locs ls cells slots h1 h2 hP hD hS hl => lv_ldcw C0.1 C0.2.1 C0.2.2.2.1 (C0.2.2.2.2.1 _ hc) hdg (k H locs ls cells slots h1 h2 hP hD hS hl)
theorem fw_ldc2 (C0 : fw_C p s m args meth c D tc A own cc nL) {pc n : Nat} {lv : List (Nat × Value)} {rest : List Value} {S : fw_S} {index : Nat} {v : Int64} (hc : Cond.constantLong own index v ∈ fw_AW) (hdg : decode cc pc = .ok (.ldc2_w index, 3))
    (k : fw_W p l e R s m args below meth c Q D tc ad kd N nL A (pc + 3) lv (.long v :: rest) S n) : fw_W p l e R s m args below meth c Q D tc ad kd N nL A pc lv (rest) S n :=
  fun H locs ls cells slots h1 h2 hP hD hS hl => lv_ldc2 C0.1 C0.2.1 C0.2.2.2.1 (C0.2.2.2.2.1 _ hc) hdg (k H locs ls cells slots h1 h2 hP hD hS hl)
theorem fw_iload_n (C0 : fw_C p s m args meth c D tc A own cc nL) {pc n : Nat} {lv : List (Nat × Value)} {rest : List Value} {S : fw_S} {i : Fin 4} {x : Int32} (h : ((i : Nat), Value.int x) ∈ lv) (hdg : decode cc pc = .ok (.iload_n i, 1))
    (k : fw_W p l e R s m args below meth c Q D tc ad kd N nL A (pc + 1) lv (.int x :: rest) S n) : fw_W p l e R s m args below meth c Q D tc ad kd N nL A pc lv (rest) S n :=
  fun H locs ls cells slots h1 h2 hP hD hS hl => lv_iload_n C0.1 C0.2.1 hdg rfl (hl.2.2 _ h) (k H locs ls cells slots h1 h2 hP hD hS hl)
theorem fw_iload (C0 : fw_C p s m args meth c D tc A own cc nL) {pc n : Nat} {lv : List (Nat × Value)} {rest : List Value} {S : fw_S} {i : Nat} {x : Int32} (h : (i, Value.int x) ∈ lv) (hdg : decode cc pc = .ok (.iload i, 2))
    (k : fw_W p l e R s m args below meth c Q D tc ad kd N nL A (pc + 2) lv (.int x :: rest) S n) : fw_W p l e R s m args below meth c Q D tc ad kd N nL A pc lv (rest) S n :=
  fun H locs ls cells slots h1 h2 hP hD hS hl => lv_iload C0.1 C0.2.1 hdg (hl.2.2 _ h) (k H locs ls cells slots h1 h2 hP hD hS hl)
theorem fw_lload_n (C0 : fw_C p s m args meth c D tc A own cc nL) {pc n : Nat} {lv : List (Nat × Value)} {rest : List Value} {S : fw_S} {i : Fin 4} {x : Int64} (h : ((i : Nat), Value.long x) ∈ lv) (hdg : decode cc pc = .ok (.lload_n i, 1))
    (k : fw_W p l e R s m args below meth c Q D tc ad kd N nL A (pc + 1) lv (.long x :: rest) S n) : fw_W p l e R s m args below meth c Q D tc ad kd N nL A pc lv (rest) S n :=
  fun H locs ls cells slots h1 h2 hP hD hS hl => lv_lload_n C0.1 C0.2.1 hdg rfl (hl.2.2 _ h) (k H locs ls cells slots h1 h2 hP hD hS hl)
theorem fw_lload (C0 : fw_C p s m args meth c D tc A own cc nL) {pc n : Nat} {lv : List (Nat × Value)} {rest : List Value} {S : fw_S} {i : Nat} {x : Int64} (h : (i, Value.long x) ∈ lv) (hdg : decode cc pc = .ok (.lload i, 2))
    (k : fw_W p l e R s m args below meth c Q D tc ad kd N nL A (pc + 2) lv (.long x :: rest) S n) : fw_W p l e R s m args below meth c Q D tc ad kd N nL A pc lv (rest) S n :=
  fun H locs ls cells slots h1 h2 hP hD hS hl => lv_lload C0.1 C0.2.1 hdg (hl.2.2 _ h) (k H locs ls cells slots h1 h2 hP hD hS hl)
theorem fw_aload_n (C0 : fw_C p s m args meth c D tc A own cc nL) {pc n : Nat} {lv : List (Nat × Value)} {rest : List Value} {S : fw_S} {i : Fin 4} {x : Nat} (h : ((i : Nat), Value.ref x) ∈ lv) (hdg : decode cc pc = .ok (.aload_n i, 1))
    (k : fw_W p l e R s m args below meth c Q D tc ad kd N nL A (pc + 1) lv (.ref x :: rest) S n) : fw_W p l e R s m args below meth c Q D tc ad kd N nL A pc lv (rest) S n :=
  fun H locs ls cells slots h1 h2 hP hD hS hl => lv_aload_n C0.1 C0.2.1 hdg rfl (hl.2.2 _ h) (k H locs ls cells slots h1 h2 hP hD hS hl)
theorem fw_aload (C0 : fw_C p s m args meth c D tc A own cc nL) {pc n : Nat} {lv : List (Nat × Value)} {rest : List Value} {S : fw_S} {i : Nat} {x : Nat} (h : (i, Value.ref x) ∈ lv) (hdg : decode cc pc = .ok (.aload i, 2))
    (k : fw_W p l e R s m args below meth c Q D tc ad kd N nL A (pc + 2) lv (.ref x :: rest) S n) : fw_W p l e R s m args below meth c Q D tc ad kd N nL A pc lv (rest) S n :=
  fun H locs ls cells slots h1 h2 hP hD hS hl => lv_aload C0.1 C0.2.1 hdg (hl.2.2 _ h) (k H locs ls cells slots h1 h2 hP hD hS hl)
def fw_st1 (lv : List (Nat × Value)) (i : Nat) (v : Value) : List (Nat × Value) := (i, v) :: lv.filter (fun q => !(q.1 == i) && !(q.1 + 1 == i && q.2.category == 2))
def fw_st2 (lv : List (Nat × Value)) (i : Nat) (v : Value) : List (Nat × Value) := (i, v) :: lv.filter (fun q => !(q.1 == i) && (!(q.1 == i + 1) && !(q.1 + 1 == i && q.2.category == 2)))
theorem fw_istore_n (C0 : fw_C p s m args meth c D tc A own cc nL) {pc n : Nat} {lv : List (Nat × Value)} {rest : List Value} {S : fw_S} {i : Nat} {k0 : Fin 4} {x : Int32} (hi : (k0 : Nat) = i) (hn : i < nL) (hdg : decode cc pc = .ok (.istore_n k0, 1))
    (k : fw_W p l e R s m args below meth c Q D tc ad kd N nL A (pc + 1) (fw_st1 lv i (.int x)) (rest) S n) : fw_W p l e R s m args below meth c Q D tc ad kd N nL A pc lv (.int x :: rest) S n :=
  fun H locs ls cells slots h1 h2 hP hD hS hl => lv_istore_n C0.1 C0.2.1 hdg hi hl hn rfl (fun ls1 hl1 => k H locs ls1 cells slots h1 h2 hP hD hS hl1)
theorem fw_istore (C0 : fw_C p s m args meth c D tc A own cc nL) {pc n : Nat} {lv : List (Nat × Value)} {rest : List Value} {S : fw_S} {i : Nat} {x : Int32} (hn : i < nL) (hdg : decode cc pc = .ok (.istore i, 2))
    (k : fw_W p l e R s m args below meth c Q D tc ad kd N nL A (pc + 2) (fw_st1 lv i (.int x)) (rest) S n) : fw_W p l e R s m args below meth c Q D tc ad kd N nL A pc lv (.int x :: rest) S n :=
  fun H locs ls cells slots h1 h2 hP hD hS hl => lv_istore C0.1 C0.2.1 hdg hl hn rfl (fun ls1 hl1 => k H locs ls1 cells slots h1 h2 hP hD hS hl1)
theorem fw_lstore_n (C0 : fw_C p s m args meth c D tc A own cc nL) {pc n : Nat} {lv : List (Nat × Value)} {rest : List Value} {S : fw_S} {i : Nat} {k0 : Fin 4} {x : Int64} (hi : (k0 : Nat) = i) (hn : i + 1 < nL) (hdg : decode cc pc = .ok (.lstore_n k0, 1))
    (k : fw_W p l e R s m args below meth c Q D tc ad kd N nL A (pc + 1) (fw_st2 lv i (.long x)) (rest) S n) : fw_W p l e R s m args below meth c Q D tc ad kd N nL A pc lv (.long x :: rest) S n :=
  fun H locs ls cells slots h1 h2 hP hD hS hl => lv_lstore_n C0.1 C0.2.1 hdg hi hl hn rfl (fun ls1 hl1 => k H locs ls1 cells slots h1 h2 hP hD hS hl1)
theorem fw_lstore (C0 : fw_C p s m args meth c D tc A own cc nL) {pc n : Nat} {lv : List (Nat × Value)} {rest : List Value} {S : fw_S} {i : Nat} {x : Int64} (hn : i + 1 < nL) (hdg : decode cc pc = .ok (.lstore i, 2))
    (k : fw_W p l e R s m args below meth c Q D tc ad kd N nL A (pc + 2) (fw_st2 lv i (.long x)) (rest) S n) : fw_W p l e R s m args below meth c Q D tc ad kd N nL A pc lv (.long x :: rest) S n :=
  fun H locs ls cells slots h1 h2 hP hD hS hl => lv_lstore C0.1 C0.2.1 hdg hl hn rfl (fun ls1 hl1 => k H locs ls1 cells slots h1 h2 hP hD hS hl1)
theorem fw_astore_n (C0 : fw_C p s m args meth c D tc A own cc nL) {pc n : Nat} {lv : List (Nat × Value)} {rest : List Value} {S : fw_S} {i : Nat} {k0 : Fin 4} {x : Nat} (hi : (k0 : Nat) = i) (hn : i < nL) (hdg : decode cc pc = .ok (.astore_n k0, 1))
    (k : fw_W p l e R s m args below meth c Q D tc ad kd N nL A (pc + 1) (fw_st1 lv i (.ref x)) (rest) S n) : fw_W p l e R s m args below meth c Q D tc ad kd N nL A pc lv (.ref x :: rest) S n :=
  fun H locs ls cells slots h1 h2 hP hD hS hl => lv_astore_n C0.1 C0.2.1 hdg hi hl hn rfl (fun ls1 hl1 => k H locs ls1 cells slots h1 h2 hP hD hS hl1)
theorem fw_astore (C0 : fw_C p s m args meth c D tc A own cc nL) {pc n : Nat} {lv : List (Nat × Value)} {rest : List Value} {S : fw_S} {i : Nat} {x : Nat} (hn : i < nL) (hdg : decode cc pc = .ok (.astore i, 2))
    (k : fw_W p l e R s m args below meth c Q D tc ad kd N nL A (pc + 2) (fw_st1 lv i (.ref x)) (rest) S n) : fw_W p l e R s m args below meth c Q D tc ad kd N nL A pc lv (.ref x :: rest) S n :=
  fun H locs ls cells slots h1 h2 hP hD hS hl => lv_astore C0.1 C0.2.1 hdg hl hn rfl (fun ls1 hl1 => k H locs ls1 cells slots h1 h2 hP hD hS hl1)
theorem fw_iinc (C0 : fw_C p s m args meth c D tc A own cc nL) {pc n : Nat} {lv : List (Nat × Value)} {rest : List Value} {S : fw_S} {i : Nat} {n0 : Int} {x : Int32} (h : (i, Value.int x) ∈ lv) (hn : i < nL) (hdg : decode cc pc = .ok (.iinc i n0, 3))
    (k : fw_W p l e R s m args below meth c Q D tc ad kd N nL A (pc + 3) (fw_st1 lv i (.int (x + Int32.ofInt n0))) (rest) S n) : fw_W p l e R s m args below meth c Q D tc ad kd N nL A pc lv (rest) S n :=
  by
  obtain ⟨j, hj⟩ := List.getElem?_of_mem h
  exact fun H locs ls cells slots h1 h2 hP hD hS hl => lv_iinc C0.1 C0.2.1 hdg hl hj rfl hn rfl (fun ls1 hl1 => k H locs ls1 cells slots h1 h2 hP hD hS hl1)
theorem fw_iadd (C0 : fw_C p s m args meth c D tc A own cc nL) {pc n : Nat} {lv : List (Nat × Value)} {rest : List Value} {S : fw_S} {x y : Int32} (hdg : decode cc pc = .ok (.iadd, 1))
    (k : fw_W p l e R s m args below meth c Q D tc ad kd N nL A (pc + 1) lv (.int (x + y) :: rest) S n) : fw_W p l e R s m args below meth c Q D tc ad kd N nL A pc lv (.int y :: .int x :: rest) S n :=
  fun H locs ls cells slots h1 h2 hP hD hS hl => lv_iadd C0.1 C0.2.1 hdg (k H locs ls cells slots h1 h2 hP hD hS hl)
theorem fw_isub (C0 : fw_C p s m args meth c D tc A own cc nL) {pc n : Nat} {lv : List (Nat × Value)} {rest : List Value} {S : fw_S} {x y : Int32} (hdg : decode cc pc = .ok (.isub, 1))
    (k : fw_W p l e R s m args below meth c Q D tc ad kd N nL A (pc + 1) lv (.int (x - y) :: rest) S n) : fw_W p l e R s m args below meth c Q D tc ad kd N nL A pc lv (.int y :: .int x :: rest) S n :=
  fun H locs ls cells slots h1 h2 hP hD hS hl => lv_isub C0.1 C0.2.1 hdg (k H locs ls cells slots h1 h2 hP hD hS hl)
theorem fw_imul (C0 : fw_C p s m args meth c D tc A own cc nL) {pc n : Nat} {lv : List (Nat × Value)} {rest : List Value} {S : fw_S} {x y : Int32} (hdg : decode cc pc = .ok (.imul, 1))
    (k : fw_W p l e R s m args below meth c Q D tc ad kd N nL A (pc + 1) lv (.int (x * y) :: rest) S n) : fw_W p l e R s m args below meth c Q D tc ad kd N nL A pc lv (.int y :: .int x :: rest) S n :=
  fun H locs ls cells slots h1 h2 hP hD hS hl => lv_imul C0.1 C0.2.1 hdg (k H locs ls cells slots h1 h2 hP hD hS hl)
theorem fw_iand (C0 : fw_C p s m args meth c D tc A own cc nL) {pc n : Nat} {lv : List (Nat × Value)} {rest : List Value} {S : fw_S} {x y : Int32} (hdg : decode cc pc = .ok (.iand, 1))
    (k : fw_W p l e R s m args below meth c Q D tc ad kd N nL A (pc + 1) lv (.int (x &&& y) :: rest) S n) : fw_W p l e R s m args below meth c Q D tc ad kd N nL A pc lv (.int y :: .int x :: rest) S n :=
  fun H locs ls cells slots h1 h2 hP hD hS hl => lv_iand C0.1 C0.2.1 hdg (k H locs ls cells slots h1 h2 hP hD hS hl)
theorem fw_ior (C0 : fw_C p s m args meth c D tc A own cc nL) {pc n : Nat} {lv : List (Nat × Value)} {rest : List Value} {S : fw_S} {x y : Int32} (hdg : decode cc pc = .ok (.ior, 1))
    (k : fw_W p l e R s m args below meth c Q D tc ad kd N nL A (pc + 1) lv (.int (x ||| y) :: rest) S n) : fw_W p l e R s m args below meth c Q D tc ad kd N nL A pc lv (.int y :: .int x :: rest) S n :=
  fun H locs ls cells slots h1 h2 hP hD hS hl => lv_ior C0.1 C0.2.1 hdg (k H locs ls cells slots h1 h2 hP hD hS hl)
theorem fw_ixor (C0 : fw_C p s m args meth c D tc A own cc nL) {pc n : Nat} {lv : List (Nat × Value)} {rest : List Value} {S : fw_S} {x y : Int32} (hdg : decode cc pc = .ok (.ixor, 1))
    (k : fw_W p l e R s m args below meth c Q D tc ad kd N nL A (pc + 1) lv (.int (x ^^^ y) :: rest) S n) : fw_W p l e R s m args below meth c Q D tc ad kd N nL A pc lv (.int y :: .int x :: rest) S n :=
  fun H locs ls cells slots h1 h2 hP hD hS hl => lv_ixor C0.1 C0.2.1 hdg (k H locs ls cells slots h1 h2 hP hD hS hl)
theorem fw_ishl (C0 : fw_C p s m args meth c D tc A own cc nL) {pc n : Nat} {lv : List (Nat × Value)} {rest : List Value} {S : fw_S} {x y : Int32} (hdg : decode cc pc = .ok (.ishl, 1))
    (k : fw_W p l e R s m args below meth c Q D tc ad kd N nL A (pc + 1) lv (.int (x <<< (y &&& 31)) :: rest) S n) : fw_W p l e R s m args below meth c Q D tc ad kd N nL A pc lv (.int y :: .int x :: rest) S n :=
  fun H locs ls cells slots h1 h2 hP hD hS hl => lv_ishl C0.1 C0.2.1 hdg (k H locs ls cells slots h1 h2 hP hD hS hl)
theorem fw_ishr (C0 : fw_C p s m args meth c D tc A own cc nL) {pc n : Nat} {lv : List (Nat × Value)} {rest : List Value} {S : fw_S} {x y : Int32} (hdg : decode cc pc = .ok (.ishr, 1))
    (k : fw_W p l e R s m args below meth c Q D tc ad kd N nL A (pc + 1) lv (.int (x >>> (y &&& 31)) :: rest) S n) : fw_W p l e R s m args below meth c Q D tc ad kd N nL A pc lv (.int y :: .int x :: rest) S n :=
  fun H locs ls cells slots h1 h2 hP hD hS hl => lv_ishr C0.1 C0.2.1 hdg (k H locs ls cells slots h1 h2 hP hD hS hl)
theorem fw_iushr (C0 : fw_C p s m args meth c D tc A own cc nL) {pc n : Nat} {lv : List (Nat × Value)} {rest : List Value} {S : fw_S} {x y : Int32} (hdg : decode cc pc = .ok (.iushr, 1))
    (k : fw_W p l e R s m args below meth c Q D tc ad kd N nL A (pc + 1) lv (.int (x.toUInt32 >>> (y.toUInt32 &&& Int32.toUInt32 31)).toInt32 :: rest) S n) : fw_W p l e R s m args below meth c Q D tc ad kd N nL A pc lv (.int y :: .int x :: rest) S n :=
  fun H locs ls cells slots h1 h2 hP hD hS hl => lv_iushr C0.1 C0.2.1 hdg rfl (k H locs ls cells slots h1 h2 hP hD hS hl)
theorem fw_ineg (C0 : fw_C p s m args meth c D tc A own cc nL) {pc n : Nat} {lv : List (Nat × Value)} {rest : List Value} {S : fw_S} {x : Int32} (hdg : decode cc pc = .ok (.ineg, 1))
    (k : fw_W p l e R s m args below meth c Q D tc ad kd N nL A (pc + 1) lv (.int (0 - x) :: rest) S n) : fw_W p l e R s m args below meth c Q D tc ad kd N nL A pc lv (.int x :: rest) S n :=
  fun H locs ls cells slots h1 h2 hP hD hS hl => lv_ineg C0.1 C0.2.1 hdg (k H locs ls cells slots h1 h2 hP hD hS hl)
theorem fw_idiv (C0 : fw_C p s m args meth c D tc A own cc nL) {pc n : Nat} {lv : List (Nat × Value)} {rest : List Value} {S : fw_S} {x y : Int32} (hne : ¬ y = 0) (hdg : decode cc pc = .ok (.idiv, 1))
    (k : fw_W p l e R s m args below meth c Q D tc ad kd N nL A (pc + 1) lv (.int (x / y) :: rest) S n) : fw_W p l e R s m args below meth c Q D tc ad kd N nL A pc lv (.int y :: .int x :: rest) S n :=
  fun H locs ls cells slots h1 h2 hP hD hS hl => lv_idiv C0.1 C0.2.1 hdg hne (k H locs ls cells slots h1 h2 hP hD hS hl)
theorem fw_irem (C0 : fw_C p s m args meth c D tc A own cc nL) {pc n : Nat} {lv : List (Nat × Value)} {rest : List Value} {S : fw_S} {x y : Int32} (hne : ¬ y = 0) (hdg : decode cc pc = .ok (.irem, 1))
    (k : fw_W p l e R s m args below meth c Q D tc ad kd N nL A (pc + 1) lv (.int (x - x / y * y) :: rest) S n) : fw_W p l e R s m args below meth c Q D tc ad kd N nL A pc lv (.int y :: .int x :: rest) S n :=
  fun H locs ls cells slots h1 h2 hP hD hS hl => lv_irem C0.1 C0.2.1 hdg hne (k H locs ls cells slots h1 h2 hP hD hS hl)
theorem fw_ladd (C0 : fw_C p s m args meth c D tc A own cc nL) {pc n : Nat} {lv : List (Nat × Value)} {rest : List Value} {S : fw_S} {x y : Int64} (hdg : decode cc pc = .ok (.ladd, 1))
    (k : fw_W p l e R s m args below meth c Q D tc ad kd N nL A (pc + 1) lv (.long (x + y) :: rest) S n) : fw_W p l e R s m args below meth c Q D tc ad kd N nL A pc lv (.long y :: .long x :: rest) S n :=
  fun H locs ls cells slots h1 h2 hP hD hS hl => lv_ladd C0.1 C0.2.1 hdg (k H locs ls cells slots h1 h2 hP hD hS hl)
theorem fw_lsub (C0 : fw_C p s m args meth c D tc A own cc nL) {pc n : Nat} {lv : List (Nat × Value)} {rest : List Value} {S : fw_S} {x y : Int64} (hdg : decode cc pc = .ok (.lsub, 1))
    (k : fw_W p l e R s m args below meth c Q D tc ad kd N nL A (pc + 1) lv (.long (x - y) :: rest) S n) : fw_W p l e R s m args below meth c Q D tc ad kd N nL A pc lv (.long y :: .long x :: rest) S n :=
  fun H locs ls cells slots h1 h2 hP hD hS hl => lv_lsub C0.1 C0.2.1 hdg (k H locs ls cells slots h1 h2 hP hD hS hl)
theorem fw_lmul (C0 : fw_C p s m args meth c D tc A own cc nL) {pc n : Nat} {lv : List (Nat × Value)} {rest : List Value} {S : fw_S} {x y : Int64} (hdg : decode cc pc = .ok (.lmul, 1))
    (k : fw_W p l e R s m args below meth c Q D tc ad kd N nL A (pc + 1) lv (.long (x * y) :: rest) S n) : fw_W p l e R s m args below meth c Q D tc ad kd N nL A pc lv (.long y :: .long x :: rest) S n :=
  fun H locs ls cells slots h1 h2 hP hD hS hl => lv_lmul C0.1 C0.2.1 hdg (k H locs ls cells slots h1 h2 hP hD hS hl)
theorem fw_ldiv (C0 : fw_C p s m args meth c D tc A own cc nL) {pc n : Nat} {lv : List (Nat × Value)} {rest : List Value} {S : fw_S} {x y : Int64} (hne : ¬ y = 0) (hdg : decode cc pc = .ok (.ldiv, 1))
    (k : fw_W p l e R s m args below meth c Q D tc ad kd N nL A (pc + 1) lv (.long (x / y) :: rest) S n) : fw_W p l e R s m args below meth c Q D tc ad kd N nL A pc lv (.long y :: .long x :: rest) S n :=
  fun H locs ls cells slots h1 h2 hP hD hS hl => lv_ldiv C0.1 C0.2.1 hdg hne (k H locs ls cells slots h1 h2 hP hD hS hl)
theorem fw_lrem (C0 : fw_C p s m args meth c D tc A own cc nL) {pc n : Nat} {lv : List (Nat × Value)} {rest : List Value} {S : fw_S} {x y : Int64} (hne : ¬ y = 0) (hdg : decode cc pc = .ok (.lrem, 1))
    (k : fw_W p l e R s m args below meth c Q D tc ad kd N nL A (pc + 1) lv (.long (x - x / y * y) :: rest) S n) : fw_W p l e R s m args below meth c Q D tc ad kd N nL A pc lv (.long y :: .long x :: rest) S n :=
  fun H locs ls cells slots h1 h2 hP hD hS hl => lv_lrem C0.1 C0.2.1 hdg hne (k H locs ls cells slots h1 h2 hP hD hS hl)
theorem fw_lneg (C0 : fw_C p s m args meth c D tc A own cc nL) {pc n : Nat} {lv : List (Nat × Value)} {rest : List Value} {S : fw_S} {x : Int64} (hdg : decode cc pc = .ok (.lneg, 1))
    (k : fw_W p l e R s m args below meth c Q D tc ad kd N nL A (pc + 1) lv (.long (0 - x) :: rest) S n) : fw_W p l e R s m args below meth c Q D tc ad kd N nL A pc lv (.long x :: rest) S n :=
  fun H locs ls cells slots h1 h2 hP hD hS hl => lv_lneg C0.1 C0.2.1 hdg (k H locs ls cells slots h1 h2 hP hD hS hl)
theorem fw_i2l (C0 : fw_C p s m args meth c D tc A own cc nL) {pc n : Nat} {lv : List (Nat × Value)} {rest : List Value} {S : fw_S} {x : Int32} (hdg : decode cc pc = .ok (.i2l, 1))
    (k : fw_W p l e R s m args below meth c Q D tc ad kd N nL A (pc + 1) lv (.long x.toInt64 :: rest) S n) : fw_W p l e R s m args below meth c Q D tc ad kd N nL A pc lv (.int x :: rest) S n :=
  fun H locs ls cells slots h1 h2 hP hD hS hl => lv_i2l C0.1 C0.2.1 hdg rfl (k H locs ls cells slots h1 h2 hP hD hS hl)
theorem fw_l2i (C0 : fw_C p s m args meth c D tc A own cc nL) {pc n : Nat} {lv : List (Nat × Value)} {rest : List Value} {S : fw_S} {x : Int64} (hdg : decode cc pc = .ok (.l2i, 1))
    (k : fw_W p l e R s m args below meth c Q D tc ad kd N nL A (pc + 1) lv (.int x.toInt32 :: rest) S n) : fw_W p l e R s m args below meth c Q D tc ad kd N nL A pc lv (.long x :: rest) S n :=
  fun H locs ls cells slots h1 h2 hP hD hS hl => lv_l2i C0.1 C0.2.1 hdg rfl (k H locs ls cells slots h1 h2 hP hD hS hl)
theorem fw_lcmp (C0 : fw_C p s m args meth c D tc A own cc nL) {pc n : Nat} {lv : List (Nat × Value)} {rest : List Value} {S : fw_S} {x y : Int64} (hdg : decode cc pc = .ok (.lcmp, 1))
    (k : fw_W p l e R s m args below meth c Q D tc ad kd N nL A (pc + 1) lv (.int (lg_cmp x y) :: rest) S n) : fw_W p l e R s m args below meth c Q D tc ad kd N nL A pc lv (.long y :: .long x :: rest) S n :=
  fun H locs ls cells slots h1 h2 hP hD hS hl => W.lcmp C0.1 C0.2.1 hdg (k H locs ls cells slots h1 h2 hP hD hS hl)
theorem fw_dup (C0 : fw_C p s m args meth c D tc A own cc nL) {pc n : Nat} {lv : List (Nat × Value)} {rest : List Value} {S : fw_S} {v : Value} (hv : v.category = 1) (hdg : decode cc pc = .ok (.dup, 1))
    (k : fw_W p l e R s m args below meth c Q D tc ad kd N nL A (pc + 1) lv (v :: v :: rest) S n) : fw_W p l e R s m args below meth c Q D tc ad kd N nL A pc lv (v :: rest) S n :=
  fun H locs ls cells slots h1 h2 hP hD hS hl => lv_dup C0.1 C0.2.1 hdg hv (k H locs ls cells slots h1 h2 hP hD hS hl)
theorem fw_dup_x1 (C0 : fw_C p s m args meth c D tc A own cc nL) {pc n : Nat} {lv : List (Nat × Value)} {rest : List Value} {S : fw_S} {v w : Value} (hv : v.category = 1) (hw : w.category = 1) (hdg : decode cc pc = .ok (.dup_x1, 1))
    (k : fw_W p l e R s m args below meth c Q D tc ad kd N nL A (pc + 1) lv (v :: w :: v :: rest) S n) : fw_W p l e R s m args below meth c Q D tc ad kd N nL A pc lv (v :: w :: rest) S n :=
  fun H locs ls cells slots h1 h2 hP hD hS hl => lv_dup_x1 C0.1 C0.2.1 hdg hv hw (k H locs ls cells slots h1 h2 hP hD hS hl)
theorem fw_dup2 (C0 : fw_C p s m args meth c D tc A own cc nL) {pc n : Nat} {lv : List (Nat × Value)} {rest : List Value} {S : fw_S} {v w : Value} (hv : v.category = 1) (hw : w.category = 1) (hdg : decode cc pc = .ok (.dup2, 1))
    (k : fw_W p l e R s m args below meth c Q D tc ad kd N nL A (pc + 1) lv (v :: w :: v :: w :: rest) S n) : fw_W p l e R s m args below meth c Q D tc ad kd N nL A pc lv (v :: w :: rest) S n :=
  fun H locs ls cells slots h1 h2 hP hD hS hl => lv_dup2_11 C0.1 C0.2.1 hdg hv hw (k H locs ls cells slots h1 h2 hP hD hS hl)
theorem fw_dup2l (C0 : fw_C p s m args meth c D tc A own cc nL) {pc n : Nat} {lv : List (Nat × Value)} {rest : List Value} {S : fw_S} {v : Value} (hv : v.category = 2) (hdg : decode cc pc = .ok (.dup2, 1))
    (k : fw_W p l e R s m args below meth c Q D tc ad kd N nL A (pc + 1) lv (v :: v :: rest) S n) : fw_W p l e R s m args below meth c Q D tc ad kd N nL A pc lv (v :: rest) S n :=
  fun H locs ls cells slots h1 h2 hP hD hS hl => lv_dup2_2 C0.1 C0.2.1 hdg hv (k H locs ls cells slots h1 h2 hP hD hS hl)
theorem fw_pop (C0 : fw_C p s m args meth c D tc A own cc nL) {pc n : Nat} {lv : List (Nat × Value)} {rest : List Value} {S : fw_S} {v : Value} (hv : v.category = 1) (hdg : decode cc pc = .ok (.pop, 1))
    (k : fw_W p l e R s m args below meth c Q D tc ad kd N nL A (pc + 1) lv (rest) S n) : fw_W p l e R s m args below meth c Q D tc ad kd N nL A pc lv (v :: rest) S n :=
  fun H locs ls cells slots h1 h2 hP hD hS hl => lv_pop C0.1 C0.2.1 hdg hv (k H locs ls cells slots h1 h2 hP hD hS hl)
theorem fw_goto (C0 : fw_C p s m args meth c D tc A own cc nL) {pc n : Nat} {lv : List (Nat × Value)} {rest : List Value} {S : fw_S} {off : Int} {tgt : Nat} (ht : (pc : Int) + off = (tgt : Int)) (hdg : decode cc pc = .ok (.goto off, 3))
    (k : fw_W p l e R s m args below meth c Q D tc ad kd N nL A tgt lv (rest) S n) : fw_W p l e R s m args below meth c Q D tc ad kd N nL A pc lv (rest) S n :=
  fun H locs ls cells slots h1 h2 hP hD hS hl => lv_goto C0.1 C0.2.1 hdg ht (k H locs ls cells slots h1 h2 hP hD hS hl)
theorem fw_icmp_eq (C0 : fw_C p s m args meth c D tc A own cc nL) {pc n : Nat} {lv : List (Nat × Value)} {rest : List Value} {S : fw_S} {x y : Int32} {off : Int} {tgt : Nat} (ht : (pc : Int) + off = (tgt : Int)) (hdg : decode cc pc = .ok (.if_icmp .eq off, 3))
    (kt : x = y → fw_W p l e R s m args below meth c Q D tc ad kd N nL A tgt lv (rest) S n) (kf : ¬ x = y → fw_W p l e R s m args below meth c Q D tc ad kd N nL A (pc + 3) lv (rest) S n) : fw_W p l e R s m args below meth c Q D tc ad kd N nL A pc lv (.int y :: .int x :: rest) S n :=
  fun H locs ls cells slots h1 h2 hP hD hS hl => lv_icmp_eq C0.1 C0.2.1 hdg ht (fun q => kt q H locs ls cells slots h1 h2 hP hD hS hl) (fun q => kf q H locs ls cells slots h1 h2 hP hD hS hl)
theorem fw_if_eq (C0 : fw_C p s m args meth c D tc A own cc nL) {pc n : Nat} {lv : List (Nat × Value)} {rest : List Value} {S : fw_S} {x : Int32} {off : Int} {tgt : Nat} (ht : (pc : Int) + off = (tgt : Int)) (hdg : decode cc pc = .ok (.ifCond .eq off, 3))
    (kt : x = 0 → fw_W p l e R s m args below meth c Q D tc ad kd N nL A tgt lv (rest) S n) (kf : ¬ x = 0 → fw_W p l e R s m args below meth c Q D tc ad kd N nL A (pc + 3) lv (rest) S n) : fw_W p l e R s m args below meth c Q D tc ad kd N nL A pc lv (.int x :: rest) S n :=
  fun H locs ls cells slots h1 h2 hP hD hS hl => lv_if_eq C0.1 C0.2.1 hdg ht (fun q => kt q H locs ls cells slots h1 h2 hP hD hS hl) (fun q => kf q H locs ls cells slots h1 h2 hP hD hS hl)
theorem fw_icmp_ne (C0 : fw_C p s m args meth c D tc A own cc nL) {pc n : Nat} {lv : List (Nat × Value)} {rest : List Value} {S : fw_S} {x y : Int32} {off : Int} {tgt : Nat} (ht : (pc : Int) + off = (tgt : Int)) (hdg : decode cc pc = .ok (.if_icmp .ne off, 3))
    (kt : x ≠ y → fw_W p l e R s m args below meth c Q D tc ad kd N nL A tgt lv (rest) S n) (kf : x = y → fw_W p l e R s m args below meth c Q D tc ad kd N nL A (pc + 3) lv (rest) S n) : fw_W p l e R s m args below meth c Q D tc ad kd N nL A pc lv (.int y :: .int x :: rest) S n :=
  fun H locs ls cells slots h1 h2 hP hD hS hl => lv_icmp_ne C0.1 C0.2.1 hdg ht (fun q => kt q H locs ls cells slots h1 h2 hP hD hS hl) (fun q => kf q H locs ls cells slots h1 h2 hP hD hS hl)
theorem fw_if_ne (C0 : fw_C p s m args meth c D tc A own cc nL) {pc n : Nat} {lv : List (Nat × Value)} {rest : List Value} {S : fw_S} {x : Int32} {off : Int} {tgt : Nat} (ht : (pc : Int) + off = (tgt : Int)) (hdg : decode cc pc = .ok (.ifCond .ne off, 3))
    (kt : x ≠ 0 → fw_W p l e R s m args below meth c Q D tc ad kd N nL A tgt lv (rest) S n) (kf : x = 0 → fw_W p l e R s m args below meth c Q D tc ad kd N nL A (pc + 3) lv (rest) S n) : fw_W p l e R s m args below meth c Q D tc ad kd N nL A pc lv (.int x :: rest) S n :=
  fun H locs ls cells slots h1 h2 hP hD hS hl => lv_if_ne C0.1 C0.2.1 hdg ht (fun q => kt q H locs ls cells slots h1 h2 hP hD hS hl) (fun q => kf q H locs ls cells slots h1 h2 hP hD hS hl)
theorem fw_icmp_lt (C0 : fw_C p s m args meth c D tc A own cc nL) {pc n : Nat} {lv : List (Nat × Value)} {rest : List Value} {S : fw_S} {x y : Int32} {off : Int} {tgt : Nat} (ht : (pc : Int) + off = (tgt : Int)) (hdg : decode cc pc = .ok (.if_icmp .lt off, 3))
    (kt : x < y → fw_W p l e R s m args below meth c Q D tc ad kd N nL A tgt lv (rest) S n) (kf : ¬ x < y → fw_W p l e R s m args below meth c Q D tc ad kd N nL A (pc + 3) lv (rest) S n) : fw_W p l e R s m args below meth c Q D tc ad kd N nL A pc lv (.int y :: .int x :: rest) S n :=
  fun H locs ls cells slots h1 h2 hP hD hS hl => lv_icmp_lt C0.1 C0.2.1 hdg ht (fun q => kt q H locs ls cells slots h1 h2 hP hD hS hl) (fun q => kf q H locs ls cells slots h1 h2 hP hD hS hl)
theorem fw_if_lt (C0 : fw_C p s m args meth c D tc A own cc nL) {pc n : Nat} {lv : List (Nat × Value)} {rest : List Value} {S : fw_S} {x : Int32} {off : Int} {tgt : Nat} (ht : (pc : Int) + off = (tgt : Int)) (hdg : decode cc pc = .ok (.ifCond .lt off, 3))
    (kt : x < 0 → fw_W p l e R s m args below meth c Q D tc ad kd N nL A tgt lv (rest) S n) (kf : ¬ x < 0 → fw_W p l e R s m args below meth c Q D tc ad kd N nL A (pc + 3) lv (rest) S n) : fw_W p l e R s m args below meth c Q D tc ad kd N nL A pc lv (.int x :: rest) S n :=
  fun H locs ls cells slots h1 h2 hP hD hS hl => lv_if_lt C0.1 C0.2.1 hdg ht (fun q => kt q H locs ls cells slots h1 h2 hP hD hS hl) (fun q => kf q H locs ls cells slots h1 h2 hP hD hS hl)
theorem fw_icmp_ge (C0 : fw_C p s m args meth c D tc A own cc nL) {pc n : Nat} {lv : List (Nat × Value)} {rest : List Value} {S : fw_S} {x y : Int32} {off : Int} {tgt : Nat} (ht : (pc : Int) + off = (tgt : Int)) (hdg : decode cc pc = .ok (.if_icmp .ge off, 3))
    (kt : y ≤ x → fw_W p l e R s m args below meth c Q D tc ad kd N nL A tgt lv (rest) S n) (kf : ¬ y ≤ x → fw_W p l e R s m args below meth c Q D tc ad kd N nL A (pc + 3) lv (rest) S n) : fw_W p l e R s m args below meth c Q D tc ad kd N nL A pc lv (.int y :: .int x :: rest) S n :=
  fun H locs ls cells slots h1 h2 hP hD hS hl => lv_icmp_ge C0.1 C0.2.1 hdg ht (fun q => kt q H locs ls cells slots h1 h2 hP hD hS hl) (fun q => kf q H locs ls cells slots h1 h2 hP hD hS hl)
theorem fw_if_ge (C0 : fw_C p s m args meth c D tc A own cc nL) {pc n : Nat} {lv : List (Nat × Value)} {rest : List Value} {S : fw_S} {x : Int32} {off : Int} {tgt : Nat} (ht : (pc : Int) + off = (tgt : Int)) (hdg : decode cc pc = .ok (.ifCond .ge off, 3))
    (kt : 0 ≤ x → fw_W p l e R s m args below meth c Q D tc ad kd N nL A tgt lv (rest) S n) (kf : ¬ 0 ≤ x → fw_W p l e R s m args below meth c Q D tc ad kd N nL A (pc + 3) lv (rest) S n) : fw_W p l e R s m args below meth c Q D tc ad kd N nL A pc lv (.int x :: rest) S n :=
  fun H locs ls cells slots h1 h2 hP hD hS hl => lv_if_ge C0.1 C0.2.1 hdg ht (fun q => kt q H locs ls cells slots h1 h2 hP hD hS hl) (fun q => kf q H locs ls cells slots h1 h2 hP hD hS hl)
theorem fw_icmp_gt (C0 : fw_C p s m args meth c D tc A own cc nL) {pc n : Nat} {lv : List (Nat × Value)} {rest : List Value} {S : fw_S} {x y : Int32} {off : Int} {tgt : Nat} (ht : (pc : Int) + off = (tgt : Int)) (hdg : decode cc pc = .ok (.if_icmp .gt off, 3))
    (kt : y < x → fw_W p l e R s m args below meth c Q D tc ad kd N nL A tgt lv (rest) S n) (kf : ¬ y < x → fw_W p l e R s m args below meth c Q D tc ad kd N nL A (pc + 3) lv (rest) S n) : fw_W p l e R s m args below meth c Q D tc ad kd N nL A pc lv (.int y :: .int x :: rest) S n :=
  fun H locs ls cells slots h1 h2 hP hD hS hl => lv_icmp_gt C0.1 C0.2.1 hdg ht (fun q => kt q H locs ls cells slots h1 h2 hP hD hS hl) (fun q => kf q H locs ls cells slots h1 h2 hP hD hS hl)
theorem fw_if_gt (C0 : fw_C p s m args meth c D tc A own cc nL) {pc n : Nat} {lv : List (Nat × Value)} {rest : List Value} {S : fw_S} {x : Int32} {off : Int} {tgt : Nat} (ht : (pc : Int) + off = (tgt : Int)) (hdg : decode cc pc = .ok (.ifCond .gt off, 3))
    (kt : 0 < x → fw_W p l e R s m args below meth c Q D tc ad kd N nL A tgt lv (rest) S n) (kf : ¬ 0 < x → fw_W p l e R s m args below meth c Q D tc ad kd N nL A (pc + 3) lv (rest) S n) : fw_W p l e R s m args below meth c Q D tc ad kd N nL A pc lv (.int x :: rest) S n :=
  fun H locs ls cells slots h1 h2 hP hD hS hl => lv_if_gt C0.1 C0.2.1 hdg ht (fun q => kt q H locs ls cells slots h1 h2 hP hD hS hl) (fun q => kf q H locs ls cells slots h1 h2 hP hD hS hl)
theorem fw_icmp_le (C0 : fw_C p s m args meth c D tc A own cc nL) {pc n : Nat} {lv : List (Nat × Value)} {rest : List Value} {S : fw_S} {x y : Int32} {off : Int} {tgt : Nat} (ht : (pc : Int) + off = (tgt : Int)) (hdg : decode cc pc = .ok (.if_icmp .le off, 3))
    (kt : x ≤ y → fw_W p l e R s m args below meth c Q D tc ad kd N nL A tgt lv (rest) S n) (kf : ¬ x ≤ y → fw_W p l e R s m args below meth c Q D tc ad kd N nL A (pc + 3) lv (rest) S n) : fw_W p l e R s m args below meth c Q D tc ad kd N nL A pc lv (.int y :: .int x :: rest) S n :=
  fun H locs ls cells slots h1 h2 hP hD hS hl => lv_icmp_le C0.1 C0.2.1 hdg ht (fun q => kt q H locs ls cells slots h1 h2 hP hD hS hl) (fun q => kf q H locs ls cells slots h1 h2 hP hD hS hl)
theorem fw_if_le (C0 : fw_C p s m args meth c D tc A own cc nL) {pc n : Nat} {lv : List (Nat × Value)} {rest : List Value} {S : fw_S} {x : Int32} {off : Int} {tgt : Nat} (ht : (pc : Int) + off = (tgt : Int)) (hdg : decode cc pc = .ok (.ifCond .le off, 3))
    (kt : x ≤ 0 → fw_W p l e R s m args below meth c Q D tc ad kd N nL A tgt lv (rest) S n) (kf : ¬ x ≤ 0 → fw_W p l e R s m args below meth c Q D tc ad kd N nL A (pc + 3) lv (rest) S n) : fw_W p l e R s m args below meth c Q D tc ad kd N nL A pc lv (.int x :: rest) S n :=
  fun H locs ls cells slots h1 h2 hP hD hS hl => lv_if_le C0.1 C0.2.1 hdg ht (fun q => kt q H locs ls cells slots h1 h2 hP hD hS hl) (fun q => kf q H locs ls cells slots h1 h2 hP hD hS hl)
theorem fw_tabOut (C0 : fw_C p s m args meth c D tc A own cc nL) {pc n : Nat} {lv : List (Nat × Value)} {rest : List Value} {S : fw_S} {dflt lo hi : Int} {offs : Array Int} {len tgt : Nat} {x : Int32} (h : x.toInt < lo ∨ hi < x.toInt) (ht : (pc : Int) + dflt = (tgt : Int)) (hdg : decode cc pc = .ok (.tableswitch dflt lo hi offs, len))
    (k : fw_W p l e R s m args below meth c Q D tc ad kd N nL A tgt lv (rest) S n) : fw_W p l e R s m args below meth c Q D tc ad kd N nL A pc lv (.int x :: rest) S n :=
  fun H locs ls cells slots h1 h2 hP hD hS hl => lv_tableOut C0.1 C0.2.1 hdg h ht (k H locs ls cells slots h1 h2 hP hD hS hl)
theorem fw_tabIn (C0 : fw_C p s m args meth c D tc A own cc nL) {pc n : Nat} {lv : List (Nat × Value)} {rest : List Value} {S : fw_S} {dflt lo hi off : Int} {offs : Array Int} {len tgt : Nat} {x : Int32} (g1 : ¬ x.toInt < lo) (g2 : ¬ hi < x.toInt) (ho : offs[(x.toInt - lo).toNat]? = some off) (ht : (pc : Int) + off = (tgt : Int)) (hdg : decode cc pc = .ok (.tableswitch dflt lo hi offs, len))
    (k : fw_W p l e R s m args below meth c Q D tc ad kd N nL A tgt lv (rest) S n) : fw_W p l e R s m args below meth c Q D tc ad kd N nL A pc lv (.int x :: rest) S n :=
  fun H locs ls cells slots h1 h2 hP hD hS hl => lv_tableIn C0.1 C0.2.1 hdg g1 g2 ho ht (k H locs ls cells slots h1 h2 hP hD hS hl)
end FW
