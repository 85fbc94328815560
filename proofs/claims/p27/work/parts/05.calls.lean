/-! ===== contracts over the flat world: the start, the ends, the calls ===== -/
section FC
variable {p : Program} {l : Launch} {e : Env} {R : Room} {s : State} {m : MethodId} {args : Array Value} {below : List Frame} {meth : Method} {c : Code} {Q : State → Prop}
variable {D : va_G} {tc : Nat → ClassId} {ad : Nat → Nat} {kd : Nat → Nat × Nat} {N nL : Nat} {A : Nat → Prop} {own : String} {cc : ByteArray} {st : Nat → Nat}
variable {pc n : Nat} {lv : List (Nat × Value)} {rest : List Value} {S : fw_S} {Post : fw_O → fw_S → Prop}
theorem fw_Af_new {ad : Nat → Nat} {N sz q : Nat} (h : sz ≤ q) : fw_Af ad N sz q := Or.inr h
theorem fw_D {A B : Nat → Prop} {tc : Nat → ClassId} {ad : Nat → Nat} {kd : Nat → Nat × Nat} {N : Nat} {S : fw_S} (h : va_D A (fw_w tc ad kd N S)) (hB : ∀ k, k < N → B (ad k)) : va_D B (fw_w tc ad kd N S) := by
  refine ⟨h.1, fun k q hq => ?_⟩
  by_cases hk : k < N
  · rw [fw_w_at hk] at hq
    cases hq
    exact hB k hk
  · rw [List.getElem?_eq_none (by rw [fw_w_len]; omega)] at hq
    cases hq
theorem fw_D_in {A : Nat → Prop} {tc : Nat → ClassId} {ad : Nat → Nat} {kd : Nat → Nat × Nat} {N k : Nat} {S : fw_S} (h : va_D A (fw_w tc ad kd N S)) (hk : k < N) : A (ad k) := h.2 k _ (fw_w_at hk)
/-- a body, of a method that no native's row overrides -/
theorem vx_ofWF {l : Launch} {y : MethodName} {ws ws' : List Cond} {rm : Room} {Pc : Array Value → State → Prop} {Qc : Array Value → State → Outcome → State → Prop} {XC : String → State → State → Prop} {mc ms : Nat} {free : Addr → Prop} {cc : ByteArray} {maxL : Nat} {ret : Option FieldType}
    (hy : plainFor y = true) (hw : ws = Cond.code y cc maxL ret :: ws')
    (body : ∀ p e s m args below meth c s₁, BodyLoose p l y (headSpec ws rm) cc maxL ret e s m args below meth c s₁ → c.maxLocals = maxL → (∀ x ∈ c.exceptionTable.toList, False) → Pc args s →
      W p l e (headSpec ws rm).room s m args below meth c s.heap [] 0 0 (vx_MQ below Qc XC args s mc ms free) (entryFrame m args maxL)) : vx_Met l y ws rm Pc Qc XC mc ms free := by
  refine MetFree.of_bodySF (code := cc) (maxLocals := maxL) (ret := ret) hy ?_ ?_
  · intro args s m h hn
    obtain ⟨meth, c, h1, h2, h3, h4, h5, h6, -, -⟩ := Cond.code_spec hn (atoms_spec (ws := ws) h _ (by rw [hw]; exact List.mem_cons_self))
    exact ⟨meth, c, h1, h2, h3, h4, h5, h6⟩
  · intro p e s m args below meth c s₁ B hml hP _
    have hh0 : s₁.heap = s.heap := by rw [B.state]; rfl
    have ht : ∀ x ∈ c.exceptionTable.toList, False := by
      obtain ⟨meth9, c9, h1, h2, -, -, -, -, h7, -⟩ := Cond.code_spec B.named (atoms_spec (ws := ws) B.pre _ (by rw [hw]; exact List.mem_cons_self))
      cases Option.some.inj (h1.symm.trans B.method)
      cases Option.some.inj (h2.symm.trans (Stand.of_body B).code)
      intro x hx
      rw [Array.isEmpty_iff.mp h7] at hx
      cases hx
    obtain ⟨t, a1, o, b1, b2, b3⟩ := body p e s m args below meth c s₁ B hml ht hP s₁ hh0 (Stand.of_body B)
    exact ⟨t, o, a1, b1, b2, b3⟩
/-- a body: from its start to the contract -/
theorem fw_ofW {y : MethodName} {maxL fr lo mc : Nat} {ret : Option FieldType} {av : List Value} (hy : plainFor y = true) (hav : (lg_sl av).length ≤ maxL)
    (body : ∀ (sz : Nat) (p : Program) (e : Env) (s : State) (m : MethodId) (args : Array Value) (below : List Frame) (meth : Method) (c : Code), fw_C p s m args meth c D tc (fw_Af ad N sz) y.cls cc maxL → fw_St st (fw_Af ad N sz) s s.heap → meth.sig.returnType = ret → (∀ x ∈ c.exceptionTable.toList, False) → meth.name = y.name →
      fw_W p l e (fw_rm fr lo mc) s m args below meth c (vx_MQ below (fw_Q D tc ad kd N st (fw_Af ad N sz) Post) (fw_X D tc ad kd N st (fw_Af ad N sz) Post) args s mc (6 * mc) (fw_Af ad N sz)) D tc ad kd N maxL (fw_Af ad N sz) 0 (lv_args 0 av) [] S 0) :
    fw_Met l y cc maxL ret fr lo mc D tc ad kd N st av S Post := by
  intro sz
  refine vx_ofWF (cc := cc) (maxL := maxL) (ret := ret) hy rfl ?_
  intro p e s m args below meth c s₁ B hml ht hp
  obtain ⟨rfl, hsz, ⟨hP, hK, hD, hSt⟩, hNw⟩ := hp
  have hts := atoms_spec (ws := Cond.code y cc maxL ret :: fw_AW) B.pre
  have hC0 : fw_C p s m av.toArray meth c D tc (fw_Af ad N sz) y.cls cc maxL := ⟨B.exec, B.bytes, hml, findClass_of_methodNamed B.named, fun w hw => hts w (List.mem_cons_of_mem _ hw), hK, B.notSynchronized, fun q hq => fw_Af_new (by rw [← hsz]; exact hq), hNw⟩
  have hb := body sz p e s m av.toArray below meth c hC0 hSt B.returns ht (name_of_methodNamed B.named B.method).1
  have hl := lv_entry av (n := maxL) hav
  rw [lg_entry_eq]
  exact hb s.heap [] _ 0 0 (Nat.le_refl _) (Nat.zero_le _) hP hD va_S.rf hl
/-- the ends -/
theorem fw_end {mc : Nat} {sz : Nat} {H : Heap} (C0 : fw_C p s m args meth c D tc (fw_Af ad N sz) own cc nL) (hSt : fw_St st (fw_Af ad N sz) s s.heap) {locs : List Loc} {r : Option Value} (hP : va_P D vwCl (fw_w tc ad kd N S) H) (hD : va_D (fw_Af ad N sz) (fw_w tc ad kd N S)) (hS : va_S (fw_Af ad N sz) s.heap H locs) (hpost : Post (.inl r) S) (t : State) (ht : t.heap = H) (hW : s.WarmedH t.vm) :
    fw_Q D tc ad kd N st (fw_Af ad N sz) Post args s (.returned r) t :=
  ⟨⟨r, S, rfl, hpost, by rw [ht]; exact hP, va_K.moved hW.alike C0.2.2.2.2.2.1, hD, by rw [ht]; exact hSt.go hW.alike hS.2.1 (fun _ h => h)⟩, hS.F ht⟩
theorem fw_iret {mc sz : Nat} {x : Int32} (C0 : fw_C p s m args meth c D tc (fw_Af ad N sz) own cc nL) (hSt : fw_St st (fw_Af ad N sz) s s.heap) (hr : meth.sig.returnType = some .int) (hn : n ≤ mc) (hpost : Post (.inl (some (.int x))) S) (hdg : decode cc pc = .ok (.ireturn, 1)) :
    fw_W p l e R s m args below meth c (vx_MQ below (fw_Q D tc ad kd N st (fw_Af ad N sz) Post) (fw_X D tc ad kd N st (fw_Af ad N sz) Post) args s mc (6 * mc) (fw_Af ad N sz)) D tc ad kd N nL (fw_Af ad N sz) pc lv [.int x] S n := by
  intro H locs ls cells slots h1 h2 hP hD hS hl
  have hlocks := C0.2.2.2.2.2.2.1
  refine vx_ret (W.widen (k := mc) (n := 6 * mc) (Nat.le_trans h1 hn) (Nat.le_trans h2 (Nat.mul_le_mul_left 6 hn)) ?_)
  exact W.iret (v := x) C0.1 C0.2.1 hr (fun t ht hW => fw_end (mc := mc) C0 hSt hP hD hS hpost t ht hW) hS.2.2 hdg
theorem fw_zret {mc sz : Nat} {x : Int32} (C0 : fw_C p s m args meth c D tc (fw_Af ad N sz) own cc nL) (hSt : fw_St st (fw_Af ad N sz) s s.heap) (hr : meth.sig.returnType = some .boolean) (hx : narrow .boolean (.int x) = .int x) (hn : n ≤ mc) (hpost : Post (.inl (some (.int x))) S) (hdg : decode cc pc = .ok (.ireturn, 1)) :
    fw_W p l e R s m args below meth c (vx_MQ below (fw_Q D tc ad kd N st (fw_Af ad N sz) Post) (fw_X D tc ad kd N st (fw_Af ad N sz) Post) args s mc (6 * mc) (fw_Af ad N sz)) D tc ad kd N nL (fw_Af ad N sz) pc lv [.int x] S n := by
  intro H locs ls cells slots h1 h2 hP hD hS hl
  have hlocks := C0.2.2.2.2.2.2.1
  refine vx_ret (W.widen (k := mc) (n := 6 * mc) (Nat.le_trans h1 hn) (Nat.le_trans h2 (Nat.mul_le_mul_left 6 hn)) ?_)
  exact W.zret (v := x) (ty := .boolean) C0.1 C0.2.1 hr hx (fun t ht hW => fw_end (mc := mc) C0 hSt hP hD hS hpost t ht hW) hS.2.2 hdg
theorem fw_lret {mc sz : Nat} {x : Int64} (C0 : fw_C p s m args meth c D tc (fw_Af ad N sz) own cc nL) (hSt : fw_St st (fw_Af ad N sz) s s.heap) (hr : meth.sig.returnType = some .long) (hn : n ≤ mc) (hpost : Post (.inl (some (.long x))) S) (hdg : decode cc pc = .ok (.lreturn, 1)) :
    fw_W p l e R s m args below meth c (vx_MQ below (fw_Q D tc ad kd N st (fw_Af ad N sz) Post) (fw_X D tc ad kd N st (fw_Af ad N sz) Post) args s mc (6 * mc) (fw_Af ad N sz)) D tc ad kd N nL (fw_Af ad N sz) pc lv [.long x] S n := by
  intro H locs ls cells slots h1 h2 hP hD hS hl
  have hlocks := C0.2.2.2.2.2.2.1
  refine vx_ret (W.widen (k := mc) (n := 6 * mc) (Nat.le_trans h1 hn) (Nat.le_trans h2 (Nat.mul_le_mul_left 6 hn)) ?_)
  exact W.lret (v := x) C0.1 C0.2.1 hr (fun t ht hW => fw_end (mc := mc) C0 hSt hP hD hS hpost t ht hW) hS.2.2 hdg
theorem fw_vret {mc sz : Nat} (C0 : fw_C p s m args meth c D tc (fw_Af ad N sz) own cc nL) (hSt : fw_St st (fw_Af ad N sz) s s.heap) (hr : meth.sig.returnType = none) (hn : n ≤ mc) (hpost : Post (.inl none) S) (hdg : decode cc pc = .ok (.return_, 1)) :
    fw_W p l e R s m args below meth c (vx_MQ below (fw_Q D tc ad kd N st (fw_Af ad N sz) Post) (fw_X D tc ad kd N st (fw_Af ad N sz) Post) args s mc (6 * mc) (fw_Af ad N sz)) D tc ad kd N nL (fw_Af ad N sz) pc lv [] S n := by
  intro H locs ls cells slots h1 h2 hP hD hS hl
  have hlocks := C0.2.2.2.2.2.2.1
  refine vx_ret (W.widen (k := mc) (n := 6 * mc) (Nat.le_trans h1 hn) (Nat.le_trans h2 (Nat.mul_le_mul_left 6 hn)) ?_)
  exact W.vret C0.1 C0.2.1 hr (fun t ht hW => fw_end (mc := mc) C0 hSt hP hD hS hpost t ht hW) hS.2.2 hdg
theorem fw_aret {mc sz k : Nat} {rt : FieldType} (C0 : fw_C p s m args meth c D tc (fw_Af ad N sz) own cc nL) (hSt : fw_St st (fw_Af ad N sz) s s.heap) (hr : meth.sig.returnType = some rt) (hx : (∃ n : String, rt = .object n) ∨ ∃ t : FieldType, rt = .array t) (hn : n ≤ mc) (hpost : Post (.inl (some (.ref k))) S) (hdg : decode cc pc = .ok (.areturn, 1)) :
    fw_W p l e R s m args below meth c (vx_MQ below (fw_Q D tc ad kd N st (fw_Af ad N sz) Post) (fw_X D tc ad kd N st (fw_Af ad N sz) Post) args s mc (6 * mc) (fw_Af ad N sz)) D tc ad kd N nL (fw_Af ad N sz) pc lv [.ref k] S n := by
  intro H locs ls cells slots h1 h2 hP hD hS hl
  have hlocks := C0.2.2.2.2.2.2.1
  refine vx_ret (W.widen (k := mc) (n := 6 * mc) (Nat.le_trans h1 hn) (Nat.le_trans h2 (Nat.mul_le_mul_left 6 hn)) ?_)
  exact W.aret (v := .ref k) (rt := rt) C0.1 C0.2.1 hr hx (Or.inr ⟨k, rfl⟩) (fun t ht hW => fw_end (mc := mc) C0 hSt hP hD hS hpost t ht hW) hS.2.2 hdg
/-- an exception of class E stands thrown at pc -/
def fw_T (p : Program) (l : Launch) (e : Env) (R : Room) (s : State) (m : MethodId) (args : Array Value) (below : List Frame) (meth : Method) (c : Code) (Q : State → Prop) (D : va_G) (tc : Nat → ClassId) (ad : Nat → Nat) (kd : Nat → Nat × Nat) (N nL : Nat) (A : Nat → Prop) (pc : Nat) (lv : List (Nat × Value)) (st : List Value) (S : fw_S) (n : Nat) (E : String) : Prop :=
  ∀ (H : Heap) (locs : List Loc) (ls : Array Slot) (cells slots : Nat) (q : Addr) (ce : Cell), cells ≤ n → slots ≤ 6 * n → va_P D vwCl (fw_w tc ad kd N S) H → va_D A (fw_w tc ad kd N S) → va_S A s.heap H locs → lv_has ls nL lv → H[q]? = some ce → ce.vm = .none → s.vm.findClass E = some ce.cls →
    vx_W p l e R s m args below meth c H locs cells slots Q (F0 m pc ls st) q
/-- no table here: it goes on to the caller -/
theorem fw_out {mc sz : Nat} {E : String} (C0 : fw_C p s m args meth c D tc (fw_Af ad N sz) own cc nL) (hSt : fw_St st (fw_Af ad N sz) s s.heap) (ht : ∀ x ∈ c.exceptionTable.toList, False) (hn : n ≤ mc) (hpost : Post (.inr E) S) :
    fw_T p l e R s m args below meth c (vx_MQ below (fw_Q D tc ad kd N st (fw_Af ad N sz) Post) (fw_X D tc ad kd N st (fw_Af ad N sz) Post) args s mc (6 * mc) (fw_Af ad N sz)) D tc ad kd N nL (fw_Af ad N sz) pc lv rest S n E := by
  intro H locs ls cells slots q ce h1 h2 hP hD hS hl hce hcv hcl
  exact vx_out (fun x hx => (ht x hx).elim) C0.2.2.2.2.2.2.1 hce hcv hcl
    (fun t hth hvm => ⟨⟨S, hpost, by rw [hth]; exact hP, va_K.moved hvm C0.2.2.2.2.2.1, hD, by rw [hth]; exact hSt.go hvm hS.2.1 (fun _ h => h)⟩, hS.F hth⟩) hS.2.2 (Nat.le_trans h1 hn) (Nat.le_trans h2 (Nat.mul_le_mul_left 6 hn))
theorem fw_GoodIn {ws : List Cond} (h : ∀ w ∈ ws, w ∈ fw_AW) : GoodIn fw_AW ws := fun w hw => ⟨h w hw, good_of_word (List.mem_filter.mp (h w hw)).2⟩
/-- what a call wants besides: room, and that the callee's numbers fit -/
def fw_R (R : Room) (maxL fr lo n mc : Nat) (rest : List Value) : Prop := fr + 1 ≤ R.frames ∧ 8 + (maxL + 11) + lo ≤ R.locals ∧ n + mc ≤ R.cells ∧ 6 * (n + mc) ≤ R.slots ∧ (rest.map fun v => v.category).sum ≤ 8
theorem fw_blind {av : List Value} {sz : Nat} : FrameBlind (va_Pc av (fun U => U.heap.size = sz ∧ fw_At D tc ad kd N st A S U ∧ ∀ w ∈ fw_NW, va_Nw w U)) := fun a U g mk q => by
  obtain ⟨q0, q1, ⟨qP, qK, qD, qS⟩, qN⟩ := q
  exact ⟨q0, q1, ⟨qP, va_K.moved (u := U) (U := U.calling g mk a) (Vm.Alike.refl U.vm) qK, qD, qS.go (u := U) (U := U.calling g mk a) (Vm.Alike.refl U.vm) (fun _ _ _ => rfl) (fun _ h => h)⟩, fun w hw => va_Nw.same (u := U) (U := U.calling g mk a) (by have h2 := (List.mem_filter.mp hw).2; cases w <;> first | rfl | simp [fw_nest] at h2) rfl (qN w hw)⟩
/-- behind a run of a callee, whatever kind of call -/
theorem fw_behind {y : MethodName} {mc : Nat} {av : List Value} {st0 : List Value} (C0 : fw_C p s m args meth c D tc A own cc nL)
    (hrun : ∀ (H : Heap) (locs : List Loc) (ls : Array Slot) (cells slots : Nat), cells ≤ n → slots ≤ 6 * n → va_P D vwCl (fw_w tc ad kd N S) H → va_D A (fw_w tc ad kd N S) → va_S A s.heap H locs → lv_has ls nL lv → vx_Run p l e R s m args below meth c H locs cells slots mc (6 * mc) (F0 m pc ls st0) rest (fw_Q D tc ad kd N st (fw_Af ad N H.size) Post av.toArray) (fw_X D tc ad kd N st (fw_Af ad N H.size) Post) (fw_Af ad N H.size))
    (kr : ∀ (r : Option Value) (S' : fw_S), Post (.inl r) S' → fw_W p l e R s m args below meth c Q D tc ad kd N nL A (pc + 3) lv (r.toList ++ rest) S' (n + mc))
    (kx : ∀ (E : String) (S' : fw_S), Post (.inr E) S' → fw_T p l e R s m args below meth c Q D tc ad kd N nL A pc lv rest S' (n + mc) E) :
    fw_W p l e R s m args below meth c Q D tc ad kd N nL A pc lv st0 S n := by
  intro H locs ls cells slots h1 h2 hP hD hS hl
  have hA1 : ∀ q, fw_Af ad N H.size q → A q := fun q h => by
    rcases h with ⟨k, hk, rfl⟩ | h
    · exact fw_D_in hD hk
    · exact C0.2.2.2.2.2.2.2.1 q (Nat.le_trans hS.1 h)
  have hr := hrun H locs ls cells slots h1 h2 hP hD hS hl
  intro T hT X
  rcases hr T hT X with ⟨v, st₀, t, T', L, h0, X', hL, e1, e2, ⟨⟨r, S', hv, hp, gP, gK, gD, gS⟩, hF⟩, stp⟩ | ⟨q, st₀, t, T', L, E, ce, h0, X', hL, e1, e2, ⟨⟨S', hp, gP, gK, gD, gS⟩, hF⟩, hce, hcv, hcl, stp⟩
  · cases hv
    obtain ⟨k1, k2, k3⟩ := vx_keep h0 e1 hS (fun q _ h => hA1 q h) hA1 hL hF
    obtain ⟨t2, a1, b1⟩ := kr v S' hp T'.heap (locs ++ L) ls (cells + mc) (slots + 6 * mc) (by omega) (by omega) (by rw [e1]; exact gP) (fw_D gD (fun k hk => fw_D_in hD hk)) k3 hl T' rfl X'
    exact ⟨t2, stp t2 a1, b1⟩
  · obtain ⟨k1, k2, k3⟩ := vx_keep h0 e1 hS (fun q _ h => hA1 q h) hA1 hL hF
    obtain ⟨t2, a1, b1⟩ := kx E S' hp T'.heap (locs ++ L) ls (cells + mc) (slots + 6 * mc) q ce (by omega) (by omega) (by rw [e1]; exact gP) (fw_D gD (fun k hk => fw_D_in hD hk)) k3 hl (by rw [e1]; exact hce) hcv hcl T' rfl X'
    exact ⟨t2, stp.trans a1, b1⟩
/-- the callee's start, in the caller -/
theorem fw_pre {av : List Value} (C0 : fw_C p s m args meth c D tc A own cc nL) (hSt : fw_St st A s s.heap) {H : Heap} {locs : List Loc} (hP : va_P D vwCl (fw_w tc ad kd N S) H) (hD : va_D A (fw_w tc ad kd N S)) (hS : va_S A s.heap H locs) (U : State) (hU : U.heap = H) (hW : s.WarmedH U.vm) :
    va_Pc av (fun U => U.heap.size = H.size ∧ fw_At D tc ad kd N st (fw_Af ad N H.size) S U ∧ ∀ w ∈ fw_NW, va_Nw w U) av.toArray U := by
  have hA : ∀ q, fw_Af ad N H.size q → A q := fun q h => by
    rcases h with ⟨k, hk, rfl⟩ | h
    · exact fw_D_in hD hk
    · exact C0.2.2.2.2.2.2.2.1 q (Nat.le_trans hS.1 h)
  have h4 : fw_St st (fw_Af ad N H.size) U H := hSt.go hW.alike hS.2.1 hA
  subst hU
  exact ⟨rfl, rfl, ⟨hP, va_K.moved hW.alike C0.2.2.2.2.2.1, fw_D hD (fun k hk => Or.inl ⟨k, hk, rfl⟩), h4⟩, fw_Nw_go hW C0.2.2.2.2.2.2.2.2⟩
/-- invokestatic -/
theorem fw_callS {y : MethodName} {bytes : ByteArray} {maxL fr lo mc index : Nat} {ret : Option FieldType} {av st0 : List Value} (C0 : fw_C p s m args meth c D tc A own cc nL) (hSt : fw_St st A s s.heap) (hM : fw_Met l y bytes maxL ret fr lo mc D tc ad kd N st av S Post)
    (hy : y.cls ≠ "java/lang/invoke/MethodHandle" ∧ y.cls ≠ "java/lang/invoke/VarHandle" ∧ (parseMethodDescriptor y.desc).map (fun d => d.parameters.length) = some av.length)
    (w1 : Cond.methodLink own index y ∈ fw_AW) (w2 : Cond.static y ∈ fw_AW) (w3 : Cond.initialized y.cls ∈ fw_AW) (w4 : Cond.code y bytes maxL ret ∈ fw_AW) (hR : fw_R R maxL fr lo n mc rest) (hst : st0 = av.reverse ++ rest) (hdg : decode cc pc = .ok (.invokestatic index, 3))
    (kr : ∀ (r : Option Value) (S' : fw_S), Post (.inl r) S' → fw_W p l e R s m args below meth c Q D tc ad kd N nL A (pc + 3) lv (r.toList ++ rest) S' (n + mc))
    (kx : ∀ (E : String) (S' : fw_S), Post (.inr E) S' → fw_T p l e R s m args below meth c Q D tc ad kd N nL A pc lv rest S' (n + mc) E) :
    fw_W p l e R s m args below meth c Q D tc ad kd N nL A pc lv st0 S n := by
  have hts := C0.2.2.2.2.1
  refine fw_behind (st := st) (y := y) (av := av) C0 (fun H locs ls cells slots h1 h2 hP hD hS hl => ?_) kr kx
  exact vx_runS (nL := nL) (Ts := fw_AW) ⟨C0.1, C0.2.1, C0.2.2.1, C0.2.2.2.1, hts⟩ (hM H.size)
    ⟨callB_of av.length hts (fw_GoodIn (fun w hw => by rcases List.mem_cons.mp hw with h | h; exact h ▸ w4; exact h)) rfl rfl rfl (hts _ w3) (hts _ w1) hy ⟨hR.1, hR.2.1⟩, hts _ w2⟩
    ⟨fw_blind, fun U hU hW => fw_pre C0 hSt hP hD hS U hU hW⟩ rfl rfl hl.1 hst (lv_room hR.2.2.2.2) hdg ⟨by have := hR.2.2.1; omega, by have := hR.2.2.2.1; omega⟩
/-- invokevirtual, the receiver's class being the method's -/
theorem fw_callV {y : MethodName} {bytes : ByteArray} {maxL fr lo mc index b ci n0 : Nat} {T : u_T} {ret : Option FieldType} {av st0 : List Value} (C0 : fw_C p s m args meth c D tc A own cc nL) (hSt : fw_St st A s s.heap) (hM : fw_Met l y bytes maxL ret fr lo mc D tc ad kd N st (.ref (ad b) :: av) S Post)
    (hb : b < N) (hkd : kd b = (ci + 6, n0)) (hc : vwCl[ci]? = some (y.cls, T, n0))
    (hy : y.cls ≠ "java/lang/invoke/MethodHandle" ∧ y.cls ≠ "java/lang/invoke/VarHandle" ∧ (parseMethodDescriptor y.desc).map (fun d => d.parameters.length) = some av.length)
    (w1 : Cond.methodLink own index y ∈ fw_AW) (w2 : Cond.instanceMethod y ∈ fw_AW) (w5 : Cond.selects y.cls y y ∈ fw_AW) (w3 : Cond.initialized y.cls ∈ fw_AW) (w4 : Cond.code y bytes maxL ret ∈ fw_AW) (hR : fw_R R maxL fr lo n mc rest) (hst : st0 = av.reverse ++ .ref (ad b) :: rest) (hdg : decode cc pc = .ok (.invokevirtual index, 3))
    (kr : ∀ (r : Option Value) (S' : fw_S), Post (.inl r) S' → fw_W p l e R s m args below meth c Q D tc ad kd N nL A (pc + 3) lv (r.toList ++ rest) S' (n + mc))
    (kx : ∀ (E : String) (S' : fw_S), Post (.inr E) S' → fw_T p l e R s m args below meth c Q D tc ad kd N nL A pc lv rest S' (n + mc) E) :
    fw_W p l e R s m args below meth c Q D tc ad kd N nL A pc lv st0 S n := by
  have hts := C0.2.2.2.2.1
  refine fw_behind (st := st) (y := y) (av := .ref (ad b) :: av) C0 (fun H locs ls cells slots h1 h2 hP hD hS hl => ?_) kr kx
  exact vx_runV (nL := nL) (Ts := fw_AW) (C := y.cls) ⟨C0.1, C0.2.1, C0.2.2.1, C0.2.2.2.1, hts⟩ (hM H.size)
    ⟨callB_of av.length hts (fw_GoodIn (fun w hw => by rcases List.mem_cons.mp hw with h | h; exact h ▸ w4; exact h)) rfl rfl rfl (hts _ w3) (hts _ w1) hy ⟨hR.1, hR.2.1⟩, hts _ w2, hts _ w5⟩
    ⟨fw_blind, va_recv C0.2.2.2.2.2.1 hP (q0 := b) (ci := ci) hc (by rw [fw_w_at hb, hkd]; rfl), fun U hU hW => fw_pre C0 hSt hP hD hS U hU hW⟩ rfl rfl hl.1 hst (lv_room hR.2.2.2.2) hdg ⟨by have := hR.2.2.1; omega, by have := hR.2.2.2.1; omega⟩
/-- invokestatic of a nest mate's private method -/
theorem fw_callSN {y : MethodName} {bytes : ByteArray} {maxL fr lo mc index : Nat} {host : String} {ret : Option FieldType} {av st0 : List Value} (C0 : fw_C p s m args meth c D tc A own cc nL) (hSt : fw_St st A s s.heap) (hM : fw_Met l y bytes maxL ret fr lo mc D tc ad kd N st av S Post)
    (hy : y.cls ≠ "java/lang/invoke/MethodHandle" ∧ y.cls ≠ "java/lang/invoke/VarHandle" ∧ (parseMethodDescriptor y.desc).map (fun d => d.parameters.length) = some av.length)
    (w1 : Cond.methodLinkNest own index y host ∈ fw_NW) (w2 : Cond.static y ∈ fw_AW) (w3 : Cond.initialized y.cls ∈ fw_AW) (w4 : Cond.code y bytes maxL ret ∈ fw_AW) (hR : fw_R R maxL fr lo n mc rest) (hst : st0 = av.reverse ++ rest) (hdg : decode cc pc = .ok (.invokestatic index, 3))
    (kr : ∀ (r : Option Value) (S' : fw_S), Post (.inl r) S' → fw_W p l e R s m args below meth c Q D tc ad kd N nL A (pc + 3) lv (r.toList ++ rest) S' (n + mc))
    (kx : ∀ (E : String) (S' : fw_S), Post (.inr E) S' → fw_T p l e R s m args below meth c Q D tc ad kd N nL A pc lv rest S' (n + mc) E) :
    fw_W p l e R s m args below meth c Q D tc ad kd N nL A pc lv st0 S n := by
  have hts := C0.2.2.2.2.1
  refine fw_behind (st := st) (y := y) (av := av) C0 (fun H locs ls cells slots h1 h2 hP hD hS hl => ?_) kr kx
  exact vx_runSN (nL := nL) (Ts := fw_AW) ⟨C0.1, C0.2.1, C0.2.2.1, C0.2.2.2.1, hts⟩ (hM H.size)
    ⟨va_cnB av.length hts (fw_GoodIn (fun w hw => by rcases List.mem_cons.mp hw with h | h; exact h ▸ w4; exact h)) rfl rfl rfl (C0.2.2.2.2.2.2.2.2 _ w1) (hts _ w3) hy ⟨hR.1, hR.2.1⟩, hts _ w2, trivial⟩
    ⟨fw_blind, fun U hU hW => fw_pre C0 hSt hP hD hS U hU hW⟩ rfl rfl hl.1 hst (lv_room hR.2.2.2.2) hdg ⟨by have := hR.2.2.1; omega, by have := hR.2.2.2.1; omega⟩
end FC
