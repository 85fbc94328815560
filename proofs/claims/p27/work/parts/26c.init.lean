/-! ===== CONSTRUCTORS: their contracts, ends and calls ===== -/
theorem aoa_spec {t : FieldType} {U : State} (h : va_AOA t U) : ∃ comp c k, U.vm.findClass (FieldType.array t).toString = some comp ∧ (U.vm.classes.findIdx? fun x => match x.kind with | .array component _ => component == comp | _ => false) = some c ∧ U.vm.classes[c]? = some k ∧ k.kind = .array comp (.array t) ∧
    U.vm.findClass ("[" ++ (FieldType.array t).toString) = some c := by
  unfold va_AOA Cond.before at h
  simp only [Cond.holds, Cond.value, beq_iff_eq] at h
  cases hc : U.vm.findClass (FieldType.array t).toString with
  | none => simp [hc] at h
  | some comp =>
    simp only [hc, Option.bind_some, Option.bind_eq_some_iff, Option.map_eq_some_iff] at h
    obtain ⟨c, hi, k, hk, hb⟩ := h
    obtain ⟨hlt, hp, -⟩ := Array.findIdx?_eq_some_iff_getElem.mp hi
    have hkk : U.vm.classes[c] = k := (Array.getElem?_eq_some_iff.mp hk).2
    rw [hkk] at hp
    cases hkind : k.kind with
    | array component ty =>
      rw [hkind] at hb hp
      simp at hb hp
      exact ⟨comp, c, k, rfl, hi, hk, by rw [hkind, hp, hb.1], hb.2⟩
    | _ => rw [hkind] at hb; simp at hb
theorem aoa_bare (vm : Vm) (comp : ClassId) : (vm.bare.classes.findIdx? fun (x : Class) => match x.kind with | .array component _ => component == comp | _ => false) = (vm.classes.findIdx? fun (x : Class) => match x.kind with | .array component _ => component == comp | _ => false) := va_idx_bare vm comp
theorem aoa_moved {t : FieldType} {u U : State} (hvm : u.vm.Alike U.vm) (h : va_AOA t u) : va_AOA t U := by
  obtain ⟨comp, c, k, h1, h2, h3, h4, h5⟩ := aoa_spec h
  obtain ⟨k', hk', he⟩ := hvm.2.2 _ _ h3
  have hi : (U.vm.classes.findIdx? fun (x : Class) => match x.kind with | .array component _ => component == comp | _ => false) = some c := by
    rw [← aoa_bare]
    first | rw [hvm.bare_eq] | rw [← hvm.bare_eq]
    rw [aoa_bare]
    exact h2
  have hkind : k'.kind = .array comp (.array t) := by rw [he]; exact h4
  have f1 : U.vm.findClass (FieldType.array t).toString = some comp := by rw [hvm.findClass]; exact h1
  have f2 : U.vm.findClass ("[" ++ (FieldType.array t).toString) = some c := by rw [hvm.findClass]; exact h5
  unfold va_AOA Cond.before Cond.holds
  simp only [Cond.value]
  rw [f1, Option.bind_some]
  refine (congrArg (fun o : Option Nat => (o.bind (fun c => (U.vm.classes[c]?).map fun (k : Class) => match k.kind with | .array _ ty => decide (ty = FieldType.array t) && decide (U.vm.findClass ("[" ++ (FieldType.array t).toString) = some c) | _ => false) == some true)) hi).trans ?_
  simp [hk', hkind, f2]
/-- the classes of the arrays of references stand made -/
def gw_AO (U : State) : Prop := va_AOA .int U ∧ va_AOA .long U ∧ va_AO "UtilityWorks$Town" U
theorem gw_AO_moved {u U : State} (hvm : u.vm.Alike U.vm) (h : gw_AO u) : gw_AO U := ⟨aoa_moved hvm h.1, aoa_moved hvm h.2.1, h.2.2.moved hvm⟩
def gw_Q (D : va_G) (tc : Nat → ClassId) (ad : Nat → Nat) (kd : Nat → Nat × Nat) (N N' : Nat) (st : Nat → Nat) (A : Nat → Prop) (Post : fw_S → Prop) : Array Value → State → Outcome → State → Prop := fun _ s0 oc t =>
  (oc = .returned none ∧ ∃ (ad' : Nat → Nat) (S' : fw_S), (∀ k, k < N → ad' k = ad k) ∧ Post S' ∧ fw_At D tc ad' kd N' st A S' t) ∧ va_F A s0 t
/-- a constructor's contract: the world grows from N to N' -/
def gw_Met (l : Launch) (y : MethodName) (cc : ByteArray) (maxL fr lo mc : Nat) (D : va_G) (tc : Nat → ClassId) (ad : Nat → Nat) (kd : Nat → Nat × Nat) (N N' : Nat) (st : Nat → Nat) (av : List Value) (S : fw_S) (Post : fw_S → Prop) : Prop :=
  ∀ sz : Nat, Met l y (.code y cc maxL none :: fw_AW) (fw_rm fr lo mc) (va_Pc av (fun U => U.heap.size = sz ∧ fw_At D tc ad kd N st (fw_Af ad N sz) S U ∧ (∀ w ∈ fw_NW, va_Nw w U) ∧ gw_AO U)) (gw_Q D tc ad kd N N' st (fw_Af ad N sz) Post) mc (6 * mc) (fw_Af ad N sz)
section GC
variable {p : Program} {l : Launch} {e : Env} {R : Room} {s : State} {m : MethodId} {args : Array Value} {below : List Frame} {meth : Method} {c : Code} {Q : State → Prop}
variable {D : va_G} {tc : Nat → ClassId} {ad : Nat → Nat} {kd : Nat → Nat × Nat} {N nL : Nat} {A : Nat → Prop} {own : String} {cc : ByteArray} {st : Nat → Nat}
variable {pc n : Nat} {lv : List (Nat × Value)} {rest : List Value} {S : fw_S} {N' : Nat} {Post : fw_S → Prop}
theorem gw_ofW {y : MethodName} {maxL fr lo mc : Nat} {av : List Value} (hy : plainName y.cls = true) (hav : (lg_sl av).length ≤ maxL)
    (body : ∀ (sz : Nat) (p : Program) (e : Env) (s : State) (m : MethodId) (args : Array Value) (below : List Frame) (meth : Method) (c : Code), fw_C p s m args meth c D tc (fw_Af ad N sz) y.cls cc maxL → fw_St st (fw_Af ad N sz) s s.heap → gw_AO s → meth.sig.returnType = none → meth.name = y.name →
      fw_W p l e (fw_rm fr lo mc) s m args below meth c (MQ below (gw_Q D tc ad kd N N' st (fw_Af ad N sz) Post) args s mc (6 * mc) (fw_Af ad N sz)) D tc ad kd N maxL (fw_Af ad N sz) 0 (lv_args 0 av) [] S 0) :
    gw_Met l y cc maxL fr lo mc D tc ad kd N N' st av S Post := by
  intro sz
  refine Met.ofW (cc := cc) (maxL := maxL) (ret := none) hy rfl ?_
  intro p e s m args below meth c s₁ B hml hp
  obtain ⟨rfl, hsz, ⟨hP, hK, hD, hSt⟩, hNw, hAO⟩ := hp
  have hts := atoms_spec (ws := Cond.code y cc maxL none :: fw_AW) B.pre
  have hC0 : fw_C p s m av.toArray meth c D tc (fw_Af ad N sz) y.cls cc maxL := ⟨B.exec, B.bytes, hml, findClass_of_methodNamed B.named, fun w hw => hts w (List.mem_cons_of_mem _ hw), hK, B.notSynchronized, fun q hq => fw_Af_new (by rw [← hsz]; exact hq), hNw⟩
  have hb := body sz p e s m av.toArray below meth c hC0 hSt hAO B.returns (name_of_methodNamed B.named B.method).1
  have hl := lv_entry av (n := maxL) hav
  rw [lg_entry_eq]
  exact hb s.heap [] _ 0 0 (Nat.le_refl _) (Nat.zero_le _) hP hD va_S.rf hl
theorem gw_vret {mc sz N0 : Nat} {ad0 : Nat → Nat} (C0 : fw_C p s m args meth c D tc (fw_Af ad0 N0 sz) own cc nL) (hSt : fw_St st (fw_Af ad0 N0 sz) s s.heap) (hr : meth.sig.returnType = none) (hn : n ≤ mc) (hag : ∀ k, k < N0 → ad k = ad0 k) (hpost : Post S) (hdg : decode cc pc = .ok (.return_, 1)) :
    fw_W p l e R s m args below meth c (MQ below (gw_Q D tc ad0 kd N0 N st (fw_Af ad0 N0 sz) Post) args s mc (6 * mc) (fw_Af ad0 N0 sz)) D tc ad kd N nL (fw_Af ad0 N0 sz) pc lv [] S n := by
  intro H locs ls cells slots h1 h2 hP hD hS hl
  have hlocks := C0.2.2.2.2.2.2.1
  refine W.widen (k := mc) (n := 6 * mc) (Nat.le_trans h1 hn) (Nat.le_trans h2 (Nat.mul_le_mul_left 6 hn)) ?_
  exact W.vret C0.1 C0.2.1 hr (fun t ht hW => ⟨⟨rfl, ad, S, hag, hpost, by rw [ht]; exact hP, va_K.moved hW.alike C0.2.2.2.2.2.1, hD, by rw [ht]; exact hSt.go hW.alike hS.2.1 (fun _ h => h)⟩, hS.F ht⟩) hS.2.2 hdg
/-- the constructor of Object -/
theorem gw_obj {idx : Nat} {x : Nat} (C0 : fw_C p s m args meth c D tc A own cc nL) (w1 : Cond.methodLink own idx Lib.objectInit ∈ fw_AW) (w2 : Cond.instanceMethod Lib.objectInit ∈ fw_AW) (w3 : Cond.code Lib.objectInit ⟨#[0xb1]⟩ 1 none ∈ fw_AW) (hf : 1 ≤ R.frames) (hl0 : 30 ≤ R.locals) (hw : (rest.map fun v => v.category).sum ≤ 8) (hdg : decode cc pc = .ok (.invokespecial idx, 3))
    (kk : fw_W p l e R s m args below meth c Q D tc ad kd N nL A (pc + 3) lv rest S n) : fw_W p l e R s m args below meth c Q D tc ad kd N nL A pc lv (.ref x :: rest) S n := by
  intro H locs ls cells slots h1 h2 hP hD hS hl
  have hts := C0.2.2.2.2.1
  refine W.objInit C0.1 C0.2.1 C0.2.2.2.1 (hts _ w1) (hts _ w2) (hts _ w3) rfl (by rw [C0.2.2.1]; exact hl.1) rfl hdg hf ?_ (kk H locs ls cells slots h1 h2 hP hD hS hl)
  have : 2 * (F0 m pc ls (.ref x :: rest)).monitorRoom = 0 ∨ 2 * (F0 m pc ls (.ref x :: rest)).monitorRoom ≤ 10 := Or.inl rfl
  omega
theorem gw_behind {y : MethodName} {mc b : Nat} {st0 : List Value} (C0 : fw_C p s m args meth c D tc A own cc nL)
    (hrun : ∀ (H : Heap) (locs : List Loc) (ls : Array Slot) (cells slots : Nat), cells ≤ n → slots ≤ 6 * n → va_P D vwCl (fw_w tc ad kd N S) H → va_D A (fw_w tc ad kd N S) → va_S A s.heap H locs → lv_has ls nL lv → va_Run p l e R s m args below meth c H locs cells slots mc (6 * mc) (F0 m pc ls st0) rest (gw_Q D tc ad kd N N' st (fw_Af ad N H.size) Post (List.toArray [.ref (ad b)])) (fw_Af ad N H.size))
    (kr : ∀ (ad' : Nat → Nat) (S' : fw_S), (∀ k, k < N → ad' k = ad k) → Post S' → fw_W p l e R s m args below meth c Q D tc ad' kd N' nL A (pc + 3) lv rest S' (n + mc)) :
    fw_W p l e R s m args below meth c Q D tc ad kd N nL A pc lv st0 S n := by
  intro H locs ls cells slots h1 h2 hP hD hS hl
  have hA1 : ∀ q, fw_Af ad N H.size q → A q := fun q h => by
    rcases h with ⟨k, hk, rfl⟩ | h
    · exact fw_D_in hD hk
    · exact C0.2.2.2.2.2.2.2.1 q (Nat.le_trans hS.1 h)
  have hr := hrun H locs ls cells slots h1 h2 hP hD hS hl
  intro T hT X
  obtain ⟨v, st₀, t, T', L, h0, X', hL, e1, e2, ⟨⟨hv, ad', S', hag, hp, gP, gK, gD, gS⟩, hF⟩, stp⟩ := hr T hT X
  cases hv
  obtain ⟨k1, k2, k3⟩ := vx_keep h0 e1 hS (fun q _ h => hA1 q h) hA1 hL hF
  obtain ⟨t2, a1, b1⟩ := kr ad' S' hag hp T'.heap (locs ++ L) ls (cells + mc) (slots + 6 * mc) (by omega) (by omega) (by rw [e1]; exact gP) (gD.weaken (fun k q _ h => hA1 q.1 h)) k3 hl T' rfl X'
  exact ⟨t2, stp t2 a1, b1⟩
theorem gw_pre {av : List Value} (C0 : fw_C p s m args meth c D tc A own cc nL) (hSt : fw_St st A s s.heap) (hAO : gw_AO s) {H : Heap} {locs : List Loc} (hP : va_P D vwCl (fw_w tc ad kd N S) H) (hD : va_D A (fw_w tc ad kd N S)) (hS : va_S A s.heap H locs) (U : State) (hU : U.heap = H) (hW : s.WarmedH U.vm) :
    va_Pc av (fun U => U.heap.size = H.size ∧ fw_At D tc ad kd N st (fw_Af ad N H.size) S U ∧ (∀ w ∈ fw_NW, va_Nw w U) ∧ gw_AO U) av.toArray U := by
  obtain ⟨h1, h2, h3, h4⟩ := fw_pre (av := av) C0 hSt hP hD hS U hU hW
  exact ⟨h1, h2, h3, h4, gw_AO_moved hW.alike hAO⟩
theorem gw_blind {av : List Value} {sz : Nat} : FrameBlind (va_Pc av (fun U => U.heap.size = sz ∧ fw_At D tc ad kd N st A S U ∧ (∀ w ∈ fw_NW, va_Nw w U) ∧ gw_AO U)) := fun a U g mk q => by
  obtain ⟨q0, q1, q2, q3, q4⟩ := q
  obtain ⟨r0, r1, r2, r3⟩ := fw_blind (D := D) (tc := tc) (ad := ad) (kd := kd) (N := N) (st := st) (A := A) (S := S) (av := av) (sz := sz) a U g mk ⟨q0, q1, q2, q3⟩
  exact ⟨r0, r1, r2, r3, gw_AO_moved (u := U) (U := U.calling g mk a) (Vm.Alike.refl U.vm) q4⟩
theorem gw_callI {y : MethodName} {bytes : ByteArray} {maxL fr lo mc index b : Nat} (C0 : fw_C p s m args meth c D tc A own cc nL) (hSt : fw_St st A s s.heap) (hAO : gw_AO s) (hM : gw_Met l y bytes maxL fr lo mc D tc ad kd N N' st [.ref (ad b)] S Post)
    (hy : y.cls ≠ "java/lang/invoke/MethodHandle" ∧ y.cls ≠ "java/lang/invoke/VarHandle" ∧ (parseMethodDescriptor y.desc).map (fun d => d.parameters.length) = some 0) (hnm : y.name = "<init>")
    (w1 : Cond.methodLink own index y ∈ fw_AW) (w2 : Cond.instanceMethod y ∈ fw_AW) (w3 : Cond.initialized y.cls ∈ fw_AW) (w4 : Cond.code y bytes maxL none ∈ fw_AW) (hR : fw_R R maxL fr lo n mc rest) (hdg : decode cc pc = .ok (.invokespecial index, 3))
    (kr : ∀ (ad' : Nat → Nat) (S' : fw_S), (∀ k, k < N → ad' k = ad k) → Post S' → fw_W p l e R s m args below meth c Q D tc ad' kd N' nL A (pc + 3) lv rest S' (n + mc)) :
    fw_W p l e R s m args below meth c Q D tc ad kd N nL A pc lv (.ref (ad b) :: rest) S n := by
  have hts := C0.2.2.2.2.1
  refine gw_behind (st := st) (y := y) (b := b) C0 (fun H locs ls cells slots h1 h2 hP hD hS hl => ?_) kr
  exact va_runI (nL := nL) (Ts := fw_AW) (As := []) (rest := rest) ⟨C0.1, C0.2.1, C0.2.2.1, C0.2.2.2.1, hts⟩ (hM H.size)
    (cwI 0 hts (fw_GoodIn (fun w hw => by rcases List.mem_cons.mp hw with h | h; exact h ▸ w4; exact h)) rfl rfl rfl (hts _ w3) (hts _ w1) (hts _ w2) hnm hy ⟨hR.1, hR.2.1⟩)
    ⟨gw_blind, fun U hU hW => gw_pre C0 hSt hAO hP hD hS U hU hW⟩ rfl rfl hl.1 rfl (lv_room hR.2.2.2.2) hdg ⟨by have := hR.2.2.1; omega, by have := hR.2.2.2.1; omega⟩
theorem gw_callIN {y : MethodName} {host : String} {bytes : ByteArray} {maxL fr lo mc index b : Nat} (C0 : fw_C p s m args meth c D tc A own cc nL) (hSt : fw_St st A s s.heap) (hAO : gw_AO s) (hM : gw_Met l y bytes maxL fr lo mc D tc ad kd N N' st [.ref (ad b)] S Post)
    (hy : y.cls ≠ "java/lang/invoke/MethodHandle" ∧ y.cls ≠ "java/lang/invoke/VarHandle" ∧ (parseMethodDescriptor y.desc).map (fun d => d.parameters.length) = some 0) (hnm : y.name = "<init>")
    (w1 : Cond.methodLinkNest own index y host ∈ fw_NW) (w2 : Cond.instanceMethod y ∈ fw_AW) (w3 : Cond.initialized y.cls ∈ fw_AW) (w4 : Cond.code y bytes maxL none ∈ fw_AW) (hR : fw_R R maxL fr lo n mc rest) (hdg : decode cc pc = .ok (.invokespecial index, 3))
    (kr : ∀ (ad' : Nat → Nat) (S' : fw_S), (∀ k, k < N → ad' k = ad k) → Post S' → fw_W p l e R s m args below meth c Q D tc ad' kd N' nL A (pc + 3) lv rest S' (n + mc)) :
    fw_W p l e R s m args below meth c Q D tc ad kd N nL A pc lv (.ref (ad b) :: rest) S n := by
  have hts := C0.2.2.2.2.1
  refine gw_behind (st := st) (y := y) (b := b) C0 (fun H locs ls cells slots h1 h2 hP hD hS hl => ?_) kr
  exact va_runIN (nL := nL) (Ts := fw_AW) (As := []) (rest := rest) ⟨C0.1, C0.2.1, C0.2.2.1, C0.2.2.2.1, hts⟩ (hM H.size)
    ⟨va_cnB 0 hts (fw_GoodIn (fun w hw => by rcases List.mem_cons.mp hw with h | h; exact h ▸ w4; exact h)) rfl rfl rfl (C0.2.2.2.2.2.2.2.2 _ w1) (hts _ w3) hy ⟨hR.1, hR.2.1⟩, hnm, hts _ w2⟩
    ⟨gw_blind, fun U hU hW => gw_pre C0 hSt hAO hP hD hS U hU hW⟩ rfl rfl hl.1 rfl (lv_room hR.2.2.2.2) hdg ⟨by have := hR.2.2.1; omega, by have := hR.2.2.2.1; omega⟩
end GC
