/-! ===== BEGIN words of one list among another's, by their places ===== -/
theorem goodIn_r {big : List Cond} (ws : List Cond) (ps : List Nat) (hp : ws = ps.filterMap (fun i => big[i]?)) (h : ws.all goodWord = true) : GoodIn big ws := by
  intro w hw
  have h1 := List.all_eq_true.mp h w hw
  rw [hp] at hw
  obtain ⟨i, -, hi⟩ := List.mem_filterMap.mp hw
  have hm : w ∈ big := by first | exact List.mem_of_getElem? hi | exact List.getElem?_mem hi
  exact ⟨hm, good_of_word h1⟩
theorem goodIn_app {big a b : List Cond} (ha : GoodIn big a) (hb : GoodIn big b) : GoodIn big (a ++ b) := fun w h => (List.mem_append.mp h).elim (ha w) (hb w)
theorem goodIn_ca {big a b : List Cond} {c : Cond} (ha : GoodIn big (c :: a)) (hb : GoodIn big b) : GoodIn big (c :: (a ++ b)) := fun w h => (List.mem_cons.mp h).elim (fun e => ha w (List.mem_cons.mpr (Or.inl e))) (fun h => (List.mem_append.mp h).elim (fun h => ha w (List.mem_cons.mpr (Or.inr h))) (hb w))
theorem goodIn_sub {big ws : List Cond} (hm : ∀ w ∈ ws, w ∈ big) (h : ws.all goodWord = true) : GoodIn big ws := fun w hw => ⟨hm w hw, good_of_word (List.all_eq_true.mp h w hw)⟩
/-! ===== END ===== -/

/-! ===== BEGIN new T[n][m]: the outer array a place, the inner ones among the pooled ===== -/
/-- f, but v at every address of l -/
def vr_up {α : Type} (f : Nat → α) (l : List Nat) (v : α) : Nat → α := fun a => if a ∈ l then v else f a
theorem vr_up_in {α : Type} {f : Nat → α} {l : List Nat} {v : α} {a : Nat} (h : a ∈ l) : vr_up f l v a = v := if_pos h
theorem vr_up_ne {α : Type} {f : Nat → α} {l : List Nat} {v : α} {a : Nat} (h : a ∉ l) : vr_up f l v a = f a := if_neg h
theorem vr_rows {L l : List Nat} {f : Nat → va_E} {e : va_E} (h : ∀ a, a ∈ l → a ∉ L) : va_pl L f ++ l.map (fun a => (a, e)) = va_pl (L ++ l) (vr_up f l e) := by
  unfold va_pl
  rw [List.map_append]
  congr 1
  · apply List.map_congr_left
    intro a ha
    rw [vr_up_ne (fun q => h a q ha)]
  · apply List.map_congr_left
    intro a ha
    rw [vr_up_in ha]
theorem vr_lay {X rows : va_W} {x : Nat × va_E} {pl : va_W} {D : va_G} {cl : List vw_C} {H : Heap} (hP : va_P D cl (((X ++ pl) ++ [x]) ++ rows) H) : va_P D cl ((X ++ [x]) ++ (pl ++ rows)) H := by
  rw [List.append_assoc (X ++ pl)] at hP
  have h := va_P.swap hP
  rw [← List.append_assoc X] at h
  have h2 := va_P.swap h
  rw [List.append_assoc (X ++ [x])] at h2
  exact h2
theorem vr_layD {X rows : va_W} {x : Nat × va_E} {pl : va_W} {A : Nat → Prop} (hD : va_D A (((X ++ pl) ++ [x]) ++ rows)) : va_D A ((X ++ [x]) ++ (pl ++ rows)) := by
  rw [List.append_assoc (X ++ pl)] at hD
  have h := va_D.swap hD
  rw [← List.append_assoc X] at h
  have h2 := va_D.swap h
  rw [List.append_assoc (X ++ [x])] at h2
  exact h2
theorem vr_outer (c : ClassId) (N h0 : Nat) : ∀ i : Nat, Jvm.Free.Multi.outerC c N h0 i = arrV c N (fun j => va_rf (if j < i then some (h0 + 1 + j) else none))
  | 0 => by
    show ({ cls := c, slots := Array.replicate N .null, vm := .none } : Cell) = _
    rw [arrV_new]
    refine congrArg (arrV c N) (funext fun j => ?_)
    simp [va_rf]
  | i + 1 => by
    show (Jvm.Free.Multi.outerC c N h0 i).setSlot i (.ref (h0 + 1 + i)) = _
    rw [vr_outer c N h0 i, arrV_store]
    refine congrArg (arrV c N) (funext fun j => ?_)
    by_cases e : j = i
    · subst e
      simp [updV, va_rf]
    · by_cases h : j < i
      · simp [updV, e, h, Nat.lt_succ_of_lt h]
      · simp [updV, e, h, show ¬ j < i + 1 by omega]
section VGM
variable {p : Program} {l : Launch} {e : Env} {R : Room} {s : State} {m : MethodId} {args : Array Value} {below : List Frame} {meth : Method} {c : Code} {H : Heap} {locs : List Loc} {cells slots : Nat} {Q : State → Prop}
variable {cc : ByteArray} {pc : Nat} {ls : Array Slot} {rest : List Value} {D : va_G} {cl : List vw_C} {A : Nat → Prop} {a : Nat} {tys : List (ClassId × FieldType)} {ws : va_W} {H0 : Heap}
theorem va_mna {X : va_W} {L : List Nat} {f : Nat → va_E} {cc : ByteArray} (hexec : p.tables.exec = Jvm.exec) (hb : c.code = cc) {own : String} {index : Nat} {ty : FieldType} {cy : ClassId} (hown : s.vm.findClass own = some m.cls) (hclink : (Cond.classLink own index ("[" ++ (FieldType.array ty).toString)).before args s = true) (hover : va_AOA ty s) (harr : (Cond.arrayClass ty).before args s = true) (hcy : s.vm.findClass (FieldType.array ty).toString = some cy)
    (hK : va_K D cl tys s) (hP : va_P D cl (X ++ va_pl L f) H) (hD : va_D A (X ++ va_pl L f)) (hS : va_S A H0 H locs) (hA : ∀ q, H0.size ≤ q → A q) {n k : Int32} {N' K' : Nat} {z : vp_A} (hn : ¬ n < 0) (hk : ¬ k < 0) (hN : n.toNatClampNeg = N') (hM : k.toNatClampNeg = K')
    (hb1 : N' * 4 ≤ 536870912) (hb2 : K' * componentBytes ty ≤ 536870912) (hb3 : K' ≤ 536870912) (hdf : fits ty (defaultValue ty) = true) (hdd : (defaultValue ty).isDefault = true) (hcells : cells + (1 + N') ≤ R.cells) (hslots : slots + (N' + N' * K') ≤ R.slots) (hz : ∀ c : ClassId, Jvm.Free.Multi.innerC c K' (defaultValue ty) = vp_cell c z) (hdg : decode cc pc = .ok (.multianewarray index 2, 4))
    (kk : ∀ (q : Nat) (r : Nat → Nat) (cA : ClassId) (H1 : Heap), (∀ i j : Nat, i < N' → j < N' → r i = r j → i = j) → (∀ i : Nat, i < N' → r i ∉ L) → va_K D cl (tys ++ [(cA, .array ty)]) s →
      va_P D cl ((X ++ [(q, .inl (cA, N', .inr (.inr (.inr (.inr (fun i => if i < N' then some (r i) else none))))))]) ++ va_pl (L ++ (List.range N').map r) (vr_up f ((List.range N').map r) (.inl (cy, z)))) H1 → va_D A ((X ++ [(q, .inl (cA, N', .inr (.inr (.inr (.inr (fun i => if i < N' then some (r i) else none))))))]) ++ va_pl (L ++ (List.range N').map r) (vr_up f ((List.range N').map r) (.inl (cy, z)))) → va_S A H0 H1 locs →
      W p l e R s m args below meth c H1 locs (cells + 1 + N') (slots + N' + N' * K') Q (F0 m (pc + 4) ls (.ref q :: rest))) : W p l e R s m args below meth c H locs cells slots Q (F0 m pc ls (.int k :: .int n :: rest)) := by
  subst hN
  subst hM
  intro T hT Xs
  obtain ⟨vm₁, cA, comp, -, fA, fC, hO, -, X', step⟩ := Xs.multianewarray2F hexec hown hclink (va_AOA.use hover) harr (g := F0 m pc ls (.int k :: .int n :: rest)) rfl (by rw [hb]; exact hdg) rfl hn hk hb1 hb2 hb3 hdf hdd hcells hslots
  have ec : some cy = some comp := hcy.symm.trans fC
  cases ec
  generalize hF : Jvm.Free.Multi.fill (T.setVm vm₁) cA cy n.toNatClampNeg k.toNatClampNeg (defaultValue ty) n.toNatClampNeg = F at X' step
  have hTh : (T.setVm vm₁).heap = H := hT
  obtain ⟨f1, f2, -, -⟩ := Jvm.Free.Multi.fill_facts (T.setVm vm₁) cA cy n.toNatClampNeg k.toNatClampNeg (defaultValue ty) n.toNatClampNeg
  rw [hF, hTh] at f1 f2
  have hold : ∀ x : Nat, x < H.size → F.heap[x]? = H[x]? := fun x hx => by
    have := Jvm.Free.Multi.fill_old (T.setVm vm₁) cA cy n.toNatClampNeg k.toNatClampNeg (defaultValue ty) (a := x) (by rw [hTh]; exact hx) n.toNatClampNeg
    rw [hF, hTh] at this
    exact this
  have hrow : ∀ j : Nat, j < n.toNatClampNeg → F.heap[H.size + 1 + j]? = some (vp_cell cy z) := fun j hj => by
    have := Jvm.Free.Multi.fill_inner (T.setVm vm₁) cA cy n.toNatClampNeg k.toNatClampNeg (defaultValue ty) n.toNatClampNeg j hj
    rw [hF, hTh, hz] at this
    exact this
  have hout : Jvm.Free.Multi.outerC cA n.toNatClampNeg H.size n.toNatClampNeg = vp_cell cA (n.toNatClampNeg, .inr (.inr (.inr (.inr (fun i => if i < n.toNatClampNeg then some (H.size + 1 + i) else none))))) := by
    rw [vp_cell_q]
    exact vr_outer cA n.toNatClampNeg H.size n.toNatClampNeg
  rw [hout] at f2
  have hlt : ∀ a, a ∈ L → a < H.size := fun a ha => by
    obtain ⟨k9, hk9⟩ := va_pl_get (X := X) (f := f) ha
    exact (hP k9 _ hk9).lt
  have hnl : ∀ i : Nat, i < n.toNatClampNeg → H.size + 1 + i ∉ L := fun i _ h => by
    have := hlt _ h
    omega
  have hnm : ∀ a, a ∈ (List.range n.toNatClampNeg).map (fun i => H.size + 1 + i) → a ∉ L := fun a ha h => by
    obtain ⟨i, -, rfl⟩ := List.mem_map.mp ha
    have := hlt _ h
    omega
  have hP0 : va_P D cl (X ++ va_pl L f) F.heap := hP.kept (fun k9 x hx => hold x.1 ((hP k9 x hx).lt))
  have hP1 : va_P D cl ((X ++ va_pl L f) ++ [(H.size, .inl (cA, n.toNatClampNeg, .inr (.inr (.inr (.inr (fun i => if i < n.toNatClampNeg then some (H.size + 1 + i) else none))))))]) F.heap := hP0.app (fun k9 x hx => by
    have h0 : k9 < 1 := (List.getElem?_eq_some_iff.mp hx).1
    rw [show k9 = 0 by omega] at hx
    cases hx
    exact f2)
  have hP2 : va_P D cl (((X ++ va_pl L f) ++ [(H.size, .inl (cA, n.toNatClampNeg, .inr (.inr (.inr (.inr (fun i => if i < n.toNatClampNeg then some (H.size + 1 + i) else none))))))]) ++ ((List.range n.toNatClampNeg).map (fun i => H.size + 1 + i)).map (fun a => (a, .inl (cy, z)))) F.heap := hP1.app (fun k9 x hx => by
    obtain ⟨a, ha, rfl⟩ := List.mem_map.mp (List.mem_of_getElem? hx)
    obtain ⟨i, hi, rfl⟩ := List.mem_map.mp ha
    exact hrow i (List.mem_range.mp hi))
  have hD2 : va_D A (((X ++ va_pl L f) ++ [(H.size, .inl (cA, n.toNatClampNeg, .inr (.inr (.inr (.inr (fun i => if i < n.toNatClampNeg then some (H.size + 1 + i) else none))))))]) ++ ((List.range n.toNatClampNeg).map (fun i => H.size + 1 + i)).map (fun a => (a, .inl (cy, z)))) := by
    have hD1 := hD.push (e := .inl (cA, n.toNatClampNeg, .inr (.inr (.inr (.inr (fun i => if i < n.toNatClampNeg then some (H.size + 1 + i) else none)))))) hP rfl (hA _ hS.1)
    generalize hW1 : (X ++ va_pl L f) ++ [(H.size, .inl (cA, n.toNatClampNeg, .inr (.inr (.inr (.inr (fun i => if i < n.toNatClampNeg then some (H.size + 1 + i) else none))))))] = W1 at hD1 hP1 ⊢
    have hle : ∀ (k9 : Nat) (x : Nat × va_E), W1[k9]? = some x → x.1 ≤ H.size := fun k9 x hx => by
      rw [← hW1] at hx
      by_cases hl : k9 < (X ++ va_pl L f).length
      · rw [List.getElem?_append_left hl] at hx
        exact Nat.le_of_lt ((hP k9 x hx).lt)
      · rw [List.getElem?_append_right (by omega)] at hx
        have h0 : k9 - (X ++ va_pl L f).length < 1 := (List.getElem?_eq_some_iff.mp hx).1
        rw [show k9 - (X ++ va_pl L f).length = 0 by omega] at hx
        cases hx
        exact Nat.le_refl _
    have hr : ∀ (k9 : Nat) (x : Nat × va_E), (((List.range n.toNatClampNeg).map (fun i => H.size + 1 + i)).map (fun a => ((a, .inl (cy, z)) : Nat × va_E)))[k9]? = some x → x.1 = H.size + 1 + k9 := fun k9 x hx => by
      rw [List.getElem?_map, List.getElem?_map] at hx
      by_cases h9 : k9 < n.toNatClampNeg
      · rw [List.getElem?_range h9] at hx
        cases hx
        rfl
      · have hn0 : (List.range n.toNatClampNeg)[k9]? = none := List.getElem?_eq_none (by rw [List.length_range]; omega)
        rw [hn0] at hx
        cases hx
    refine ⟨fun i j x y hi hj hxy => ?_, fun k9 x hx => ?_⟩
    · by_cases h1 : i < W1.length <;> by_cases h2 : j < W1.length
      · rw [List.getElem?_append_left h1] at hi
        rw [List.getElem?_append_left h2] at hj
        exact hD1.1 i j x y hi hj hxy
      · rw [List.getElem?_append_left h1] at hi
        rw [List.getElem?_append_right (by omega)] at hj
        have := hle _ _ hi
        have := hr _ _ hj
        omega
      · rw [List.getElem?_append_right (by omega)] at hi
        rw [List.getElem?_append_left h2] at hj
        have := hle _ _ hj
        have := hr _ _ hi
        omega
      · rw [List.getElem?_append_right (by omega)] at hi hj
        have := hr _ _ hi
        have := hr _ _ hj
        omega
    · by_cases h1 : k9 < W1.length
      · rw [List.getElem?_append_left h1] at hx
        exact hD1.2 k9 x hx
      · rw [List.getElem?_append_right (by omega)] at hx
        have := hr _ _ hx
        exact hA _ (by have := hS.1; omega)
  have hAr : ArrOfT s cA (.array ty) := fun N9 z9 => by
    obtain ⟨-, k9, hk9, cm9, hkk9⟩ := (hO 0 0 0).1
    exact ⟨(fun q hq => by cases hq), k9, hk9, cm9, hkk9⟩
  have hK2 : va_K D cl (tys ++ [(cA, .array ty)]) s := ⟨hK.1, fun k9 x hx => by
    by_cases hl : k9 < tys.length
    · rw [List.getElem?_append_left hl] at hx
      exact hK.2 k9 x hx
    · rw [List.getElem?_append_right (by omega)] at hx
      have h0 : k9 - tys.length < 1 := (List.getElem?_eq_some_iff.mp hx).1
      rw [show k9 - tys.length = 0 by omega] at hx
      cases hx
      exact ⟨hAr, fA⟩⟩
  obtain ⟨t, a1, b1⟩ := kk H.size (fun i => H.size + 1 + i) cA F.heap (fun i j _ _ h => by have h9 : H.size + 1 + i = H.size + 1 + j := h; omega) hnl hK2 (by rw [← vr_rows hnm]; exact vr_lay hP2) (by rw [← vr_rows hnm]; exact vr_layD hD2) ⟨by rw [f1]; have := hS.1; omega, fun x h1 h2 => (hold x (Nat.lt_of_lt_of_le h1 hS.1)).trans (hS.2.1 x h1 h2), hS.2.2⟩ F rfl X'
  refine ⟨t, step t ?_, b1⟩
  have e : T.heap.size = H.size := by rw [hT]
  rw [e]
  exact a1
end VGM
/-! ===== END ===== -/

/-! ===== BEGIN exceptions that leave a method, and their catching by the caller (launches without stack traces) ===== -/
section VXA
/-! The laws vx_back, vx_callV, vx_callS, vx_callSW, vx_throw0, vx_throwS follow proofs of the library, with one case more: JvmDerived/Free/Laws.lean (Back.of_free), Shelf42/LK1.lean (callV, callS), Shelf/KitTraced.lean (throwNew0V, throwNewS). -/
/-- where a method has thrown q: the class by its name, the cell, what was written, the world -/
def vx_T (XC : String → State → State → Prop) (st : State) (q : Addr) (t : State) (mc ms : Nat) (free : Addr → Prop) : Prop :=
  ∃ (E : String) (ce : Cell) (L : List Loc), XC E st t ∧ t.heap[q]? = some ce ∧ ce.vm = .none ∧ st.vm.findClass E = some ce.cls ∧ st.WarmedH t.vm ∧ st.sameButNew ({ t with vm := st.vm } : State) L mc ms ∧ ∀ z ∈ L, free z.base
def vx_Q (Qc : Array Value → State → Outcome → State → Prop) (XC : String → State → State → Prop) (mc ms : Nat) (free : Addr → Prop) : Array Value → State → Outcome → State → Prop := fun a st o t =>
  (Qc a st o t ∧ ∃ L, FrameEnd st o t L mc ms ∧ ∀ q ∈ L, free q.base) ∨ ∃ q, o = .threw q ∧ vx_T XC st q t mc ms free
/-- a callee that returns or throws -/
def vx_Met (l : Launch) (y : MethodName) (ws : List Cond) (rm : Room) (Pc : Array Value → State → Prop) (Qc : Array Value → State → Outcome → State → Prop) (XC : String → State → State → Prop) (mc ms : Nat) (free : Addr → Prop) : Prop :=
  MetFree l y (headSpec ws rm) Pc (fun _ _ _ _ _ => True) (vx_Q Qc XC mc ms free)
def vx_Post (XC : String → State → State → Prop) (mc ms : Nat) (free : Addr → Prop) : Pt → Array Value → Addr → Pt → Prop := fun A a q B =>
  ∃ (g : JFrame) (mk : MethodId) (t : State) (L : List Loc) (E : String) (ce : Cell), B.U.heap = t.heap ∧ B.U.vm = t.vm ∧ XC E (A.U.calling g mk a) t ∧ t.heap[q]? = some ce ∧ ce.vm = .none ∧ A.U.vm.findClass E = some ce.cls ∧ B.locs = A.locs ++ L ∧ (∀ z ∈ L, free z.base) ∧ B.cells = A.cells + mc ∧ B.slots = A.slots + ms
def vx_Back (l : Launch) (R : Room) (p : Program) (e : Env) (below : List Frame) (s : State) (sargs : Array Value) (y : MethodName) (len W9 : Nat)
    (Pre : Pt → Array Value → Prop) (Post : Pt → Array Value → Option Value → Pt → Prop) (PostX : Pt → Array Value → Addr → Pt → Prop) : Prop :=
  ∀ (m : MethodId) (meth : Method) (c : Code) (A : Pt) (g : JFrame) (ig : Instr) (mk : MethodId) (a : Array Value),
    Stand p l e R s m sargs below meth c A.U A.locs A.cells A.slots → g.method = m → g.locals.size = c.maxLocals → decode c.code g.pc = .ok (ig, len) →
    2 * g.monitorRoom + (g.stack.map fun v => v.category).sum ≤ W9 → A.U.methodNamed? y = some mk → Pre A a →
    (∃ (v : Option Value) (B : Pt), Stand p l e R s m sargs below meth c B.U B.locs B.cells B.slots ∧ Post A a v B ∧
      Steps p.tables e below (doInvoke e (A.U.setTop g) [] mk a).1 (B.U.setTop { g with pc := g.pc + len, stack := v.toList ++ g.stack })) ∨
    (∃ (q : Addr) (B : Pt), Stand p l e R s m sargs below meth c B.U B.locs B.cells B.slots ∧ PostX A a q B ∧
      Steps p.tables e below (doInvoke e (A.U.setTop g) [] mk a).1 ((B.U.setTop g).pushFrame (.throwing q)))
section Payer
variable {l : Launch} {R : Room} {p : Program} {e : Env} {below : List Frame} {s : State} {sargs : Array Value} {y : MethodName} {len W9 : Nat}
theorem vx_back {ws : List Cond} {rm : Room} {Pc : Array Value → State → Prop} {Qc : Array Value → State → Outcome → State → Prop} {XC : String → State → State → Prop} {mc ms : Nat} {free : Addr → Prop} {bytes : ByteArray} {maxL : Nat} {ret : Option FieldType}
    (hM : vx_Met l y ws rm Pc Qc XC mc ms free) (hblind : FrameBlind Pc) (hrc : rm.cells = mc) (hrs : rm.slots = ms)
    (hframes : rm.frames + 1 ≤ R.frames) (hlocals : W9 + (maxL + 11) + rm.locals ≤ R.locals)
    (hws : ∀ w ∈ ws, ∀ a' U, s.WarmedH U.vm → w.before a' U = true) (hcode : Cond.code y bytes maxL ret ∈ ws) (hinit : ∀ a' U, s.WarmedH U.vm → (Cond.initialized y.cls).before a' U = true) :
    vx_Back l R p e below s sargs y len W9 (PreOf R mc ms Pc) (PostOf Qc mc ms free) (vx_Post XC mc ms free) := by
  intro m meth c A g ig mk a X hg hsize hdg hW hn hp
  have h1 : (headSpec ws rm).pre.before a A.U = true := atoms_intro fun w hw => hws w hw _ _ X.warmed
  have h2 : (Cond.code y bytes maxL ret).before a A.U = true := hws _ hcode _ _ X.warmed
  have h3 : (Cond.initialized y.cls).before a A.U = true := hinit _ _ X.warmed
  have h4 : A.cells + (headSpec ws rm).room.cells ≤ R.cells := by rw [show (headSpec ws rm).room.cells = mc from hrc]; exact hp.1
  have h5 : A.slots + (headSpec ws rm).room.slots ≤ R.slots := by rw [show (headSpec ws rm).room.slots = ms from hrs]; exact hp.2.1
  have hPc : Pc a (A.U.calling g mk a) := hblind _ _ _ _ hp.2.2
  obtain ⟨U, Ls, c0, s0⟩ := A
  dsimp only [Pt.U, Pt.locs, Pt.cells, Pt.slots] at h1 h2 h3 h4 h5 X hn hPc ⊢
  obtain ⟨methY, cY, hmY, hcY, -, hlY, -, -, -, -⟩ := Cond.code_spec hn h2
  obtain ⟨kY, hkY, -⟩ := className_of_methodNamed hn
  have hinitY : kY.init = .initialized := Cond.initialized_spec (findClass_of_methodNamed hn) hkY h3
  have h : At U g.method c below := by rw [hg]; exact X.here
  have hlocals9 : W9 + (maxL + 11) + (headSpec ws rm).room.locals ≤ R.locals := hlocals
  have happ : (headSpec ws rm).appliesLoose y e.platform (U.calling g mk a) = true :=
    Spec.appliesLoose_calling (g := g) h hdg hn hkY hinitY
      (X.room_calling (g := g) (R' := (headSpec ws rm).room) hsize hmY hcY hframes (by rw [hlY]; omega) h4 h5) h1
  obtain ⟨mid, hmid⟩ := h.above
  have hfr : (U.setTop g).frames = (.java g :: mid) ++ below := by rw [State.frames_setTop' g h.top, hmid]; rfl
  obtain ⟨o, s₂, hsteps, -, hend, hq⟩ := Steps.callFree hM p X.admits X.cas X.clock (acts := []) hfr happ hPc trivial
  have hq' : vx_Q Qc XC mc ms free a (U.calling g mk a) o s₂ := hq
  rw [State.frames_setTop' g h.top] at hend
  obtain ⟨g₀, hg0⟩ := Option.isSome_iff_exists.mp h.top
  obtain ⟨r, hr⟩ := State.topJava?_eq_some.mp hg0
  have hr' : (({ U with heap := s₂.heap, slotsUsed := s₂.slotsUsed } : State).setVm s₂.vm).frames = .java g₀ :: r := hr
  rcases hq' with ⟨hqc, L, hfe, hL⟩ | ⟨q, rfl, E, ce, L, hx, hce, hcv, hcl, hW₂, hsm, hL⟩
  · obtain ⟨⟨v, rfl⟩, hW₂, e2, q2, q3, q4, q5, q6⟩ := id hfe
    have e3 : s₂ = ({ (U.calling g mk a).setFrames s₂.frames with heap := s₂.heap, slotsUsed := s₂.slotsUsed } : State).setVm s₂.vm := by
      have : s₂ = ({ s₂ with vm := (U.calling g mk a).vm } : State).setVm s₂.vm := rfl
      rw [e2] at this
      exact this
    obtain ⟨c₂, i₂, len₂, hc₂, hd₂, hf₂⟩ := hend
    have hW' : U.WarmedH s₂.vm := hW₂
    have hcc : c₂ = c := by
      have h1 : s₂.code? g.method = U.code? g.method := by
        rw [State.code?_eq, State.code?_eq, hW'.alike.method?]
      exact Option.some.inj (hc₂.symm.trans (h1.trans h.code))
    subst hcc
    have hlen : len₂ = len := by rw [hdg] at hd₂; cases hd₂; rfl
    subst hlen
    have hs₂ : s₂ = (({ U with heap := s₂.heap, slotsUsed := s₂.slotsUsed } : State).setVm s₂.vm).setTop { g with pc := g.pc + len₂, stack := v.toList ++ g.stack } := by
      refine e3.trans ?_
      rw [hf₂, State.calling_eq h.top, State.setFrames_setFrames, State.setTop_of_frames _ hr', hr]
      rfl
    have hsame : U.sameButNew ({ U with heap := s₂.heap, slotsUsed := s₂.slotsUsed } : State) L mc ms := by
      refine ⟨?_, q2, q3, q4, q5, q6⟩
      obtain ⟨t, ht, -⟩ := State.frames_cons hr
      show ({ U with heap := s₂.heap, slotsUsed := s₂.slotsUsed } : State) = { U.setFrames U.frames with heap := s₂.heap, slotsUsed := s₂.slotsUsed }
      rw [State.setFrames_self ht]
    subst hg
    refine Or.inl ⟨v, ⟨(({ U with heap := s₂.heap, slotsUsed := s₂.slotsUsed } : State).setVm s₂.vm), Ls ++ L, c0 + mc, s0 + ms⟩,
      ⟨X.admits, X.cas, X.clock, X.frames, X.room, X.hears, X.method, X.code, (X.here.setHeapUsed s₂.heap s₂.slotsUsed).setVm hW'.alike, X.tail, State.WarmedH.trans X.warmed hW', X.limits, X.bytes, X.same.trans (hsame.setVm s.vm)⟩,
      ⟨g, mk, s₂, L, rfl, rfl, hqc, rfl, hL, rfl, rfl⟩, ?_⟩
    show Steps p.tables e below _ ((({ U with heap := s₂.heap, slotsUsed := s₂.slotsUsed } : State).setVm s₂.vm).setTop { g with pc := g.pc + len₂, stack := v.toList ++ g.stack })
    rw [← hs₂]
    exact hsteps
  · obtain ⟨e2, q2, q3, q4, q5, q6⟩ := id hsm
    have e3 : s₂ = ({ (U.calling g mk a).setFrames s₂.frames with heap := s₂.heap, slotsUsed := s₂.slotsUsed } : State).setVm s₂.vm := by
      have : s₂ = ({ s₂ with vm := (U.calling g mk a).vm } : State).setVm s₂.vm := rfl
      rw [e2] at this
      exact this
    have hf₂ : s₂.frames = .throwing q :: .java g :: U.frames.tail := hend
    have hW' : U.WarmedH s₂.vm := hW₂
    have hs₂ : s₂ = ((({ U with heap := s₂.heap, slotsUsed := s₂.slotsUsed } : State).setVm s₂.vm).setTop g).pushFrame (.throwing q) := by
      refine e3.trans ?_
      rw [hf₂, State.calling_eq h.top, State.setFrames_setFrames, State.pushFrame, State.frames_setTop _ hr', State.setTop_of_frames _ hr', State.setFrames_setFrames, hr]
      rfl
    have hsame : U.sameButNew ({ U with heap := s₂.heap, slotsUsed := s₂.slotsUsed } : State) L mc ms := by
      refine ⟨?_, q2, q3, q4, q5, q6⟩
      obtain ⟨t, ht, -⟩ := State.frames_cons hr
      show ({ U with heap := s₂.heap, slotsUsed := s₂.slotsUsed } : State) = { U.setFrames U.frames with heap := s₂.heap, slotsUsed := s₂.slotsUsed }
      rw [State.setFrames_self ht]
    subst hg
    refine Or.inr ⟨q, ⟨(({ U with heap := s₂.heap, slotsUsed := s₂.slotsUsed } : State).setVm s₂.vm), Ls ++ L, c0 + mc, s0 + ms⟩,
      ⟨X.admits, X.cas, X.clock, X.frames, X.room, X.hears, X.method, X.code, (X.here.setHeapUsed s₂.heap s₂.slotsUsed).setVm hW'.alike, X.tail, State.WarmedH.trans X.warmed hW', X.limits, X.bytes, X.same.trans (hsame.setVm s.vm)⟩,
      ⟨g, mk, s₂, L, E, ce, rfl, rfl, hx, hce, hcv, hcl, rfl, hL, rfl, rfl⟩, ?_⟩
    show Steps p.tables e below _ (((({ U with heap := s₂.heap, slotsUsed := s₂.slotsUsed } : State).setVm s₂.vm).setTop g).pushFrame (.throwing q))
    rw [← hs₂]
    exact hsteps
end Payer
section Calls
variable {p : Program} {l : Launch} {e : Env} {R : Room} {s : State} {m : MethodId} {args : Array Value} {below : List Frame} {meth : Method} {c : Code} {T : State} {locs : List Loc} {cells slots : Nat}
theorem vx_callV (X : Stand p l e R s m args below meth c T locs cells slots) (hexec : p.tables.exec = Jvm.exec) {own C : String} {index : Nat} {y : MethodName} {bytes : ByteArray} {maxL : Nat} {ret : Option FieldType}
    (hown : s.vm.findClass own = some m.cls) (hlink : (Cond.methodLink own index y).before args s = true) (hinst : (Cond.instanceMethod y).before args s = true) (hsel : (Cond.selects C y y).before args s = true)
    (hcode : (Cond.code y bytes maxL ret).before args s = true) (hy : y.cls ≠ "java/lang/invoke/MethodHandle" ∧ y.cls ≠ "java/lang/invoke/VarHandle")
    {W9 : Nat} {Pre : Pt → Array Value → Prop} {Post : Pt → Array Value → Option Value → Pt → Prop} {PostX : Pt → Array Value → Addr → Pt → Prop} (hK : vx_Back l R p e below s args y 3 W9 Pre Post PostX)
    {b : Addr} {cellB : Cell} (hcell : T.heap[b]? = some cellB) (hobj : cellB.vm.isStatics = false) (hcls : s.vm.findClass C = some cellB.cls)
    {g : JFrame} (hg : g.method = m) (hsize : g.locals.size = c.maxLocals) {argsL rest : List Value} (hlen : ∀ sig, parseMethodDescriptor y.desc = some sig → argsL.length = sig.parameters.length)
    (hstack : g.stack = argsL.reverse ++ .ref b :: rest) (hW : 2 * g.monitorRoom + (rest.map fun v => v.category).sum ≤ W9) (hdg : decode c.code g.pc = .ok (.invokevirtual index, 3))
    (hpre : ∀ vm₁, s.WarmedH vm₁ → Pre ⟨T.setVm vm₁, locs, cells, slots⟩ (Value.ref b :: argsL).toArray) :
    (∃ (v : Option Value) (vm₁ : Vm) (B : Pt), s.WarmedH vm₁ ∧ Stand p l e R s m args below meth c B.U B.locs B.cells B.slots ∧ Post ⟨T.setVm vm₁, locs, cells, slots⟩ (Value.ref b :: argsL).toArray v B ∧
      ∀ target, Steps p.tables e below (B.U.setTop { g with pc := g.pc + 3, stack := v.toList ++ rest }) target → Steps p.tables e below (T.setTop g) target) ∨
    (∃ (q : Addr) (vm₁ : Vm) (B : Pt), s.WarmedH vm₁ ∧ Stand p l e R s m args below meth c B.U B.locs B.cells B.slots ∧ PostX ⟨T.setVm vm₁, locs, cells, slots⟩ (Value.ref b :: argsL).toArray q B ∧
      Steps p.tables e below (T.setTop g) ((B.U.setTop { g with stack := rest }).pushFrame (.throwing q))) := by
  obtain ⟨mk, methM, hnamed, hmethM, hstM, habM⟩ := Cond.instanceMethod_spec hinst
  obtain ⟨methM', cM, hmethM', -, -, -, -, -, -, hsigM⟩ := Cond.code_spec hnamed hcode
  cases hmethM.symm.trans hmethM'
  obtain ⟨c2, r2, m2, q1, q2, q3, q4, kP, hkP, hkPi⟩ := Cond.selects_spec hsel
  cases hcls.symm.trans q1
  cases (State.methodFound?_of_named hnamed hy).symm.trans q2
  cases hnamed.symm.trans q3
  have hselP : selectMethod e.platform s.vm cellB.cls mk = .method mk := by rw [Launch.admits_selectMethod X.admits]; exact q4
  obtain ⟨vm₁, X₁, hstep₁⟩ := X.invokevirtual hexec hown hlink hnamed hmethM hstM hkP hkPi hy (a := b) (cell := cellB) hcell
    (fun z h => by rw [h] at hobj; cases hobj) hselP hmethM habM hkP hkPi (g := g) hg (argsL := argsL) (rest := rest) (hlen _ hsigM) hstack hdg
  rcases hK m meth c ⟨T.setVm vm₁, locs, cells, slots⟩ { g with stack := rest } (.invokevirtual index) mk (Value.ref b :: argsL).toArray X₁ hg hsize hdg hW (X₁.named hnamed) (hpre vm₁ X₁.warmed) with ⟨v, B, X', hpost, hsteps⟩ | ⟨q, B, X', hpost, hsteps⟩
  · exact Or.inl ⟨v, vm₁, B, X₁.warmed, X', hpost, fun target h => hstep₁ _ fun acts => by rw [doInvoke_state]; exact hsteps.trans h⟩
  · exact Or.inr ⟨q, vm₁, B, X₁.warmed, X', hpost, hstep₁ _ fun acts => by rw [doInvoke_state]; exact hsteps⟩
theorem vx_callS (X : Stand p l e R s m args below meth c T locs cells slots) (hexec : p.tables.exec = Jvm.exec) {own : String} {index : Nat} {y : MethodName} {bytes : ByteArray} {maxL : Nat} {ret : Option FieldType}
    (hown : s.vm.findClass own = some m.cls) (hlink : (Cond.methodLink own index y).before args s = true) (hstat : (Cond.static y).before args s = true) (hinit : (Cond.initialized y.cls).before args s = true)
    (hcode : (Cond.code y bytes maxL ret).before args s = true) (hy : y.cls ≠ "java/lang/invoke/MethodHandle" ∧ y.cls ≠ "java/lang/invoke/VarHandle")
    {W9 : Nat} {Pre : Pt → Array Value → Prop} {Post : Pt → Array Value → Option Value → Pt → Prop} {PostX : Pt → Array Value → Addr → Pt → Prop} (hK : vx_Back l R p e below s args y 3 W9 Pre Post PostX)
    {g : JFrame} (hg : g.method = m) (hsize : g.locals.size = c.maxLocals) {argsL rest : List Value} (hlen : ∀ sig, parseMethodDescriptor y.desc = some sig → argsL.length = sig.parameters.length)
    (hstack : g.stack = argsL.reverse ++ rest) (hW : 2 * g.monitorRoom + (rest.map fun v => v.category).sum ≤ W9) (hdg : decode c.code g.pc = .ok (.invokestatic index, 3))
    (hpre : ∀ vm₁, s.WarmedH vm₁ → Pre ⟨T.setVm vm₁, locs, cells, slots⟩ argsL.toArray) :
    (∃ (v : Option Value) (vm₁ : Vm) (B : Pt), s.WarmedH vm₁ ∧ Stand p l e R s m args below meth c B.U B.locs B.cells B.slots ∧ Post ⟨T.setVm vm₁, locs, cells, slots⟩ argsL.toArray v B ∧
      ∀ target, Steps p.tables e below (B.U.setTop { g with pc := g.pc + 3, stack := v.toList ++ rest }) target → Steps p.tables e below (T.setTop g) target) ∨
    (∃ (q : Addr) (vm₁ : Vm) (B : Pt), s.WarmedH vm₁ ∧ Stand p l e R s m args below meth c B.U B.locs B.cells B.slots ∧ PostX ⟨T.setVm vm₁, locs, cells, slots⟩ argsL.toArray q B ∧
      Steps p.tables e below (T.setTop g) ((B.U.setTop { g with stack := rest }).pushFrame (.throwing q))) := by
  obtain ⟨mk, hnamed⟩ := Cond.code_named hcode
  obtain ⟨methM, cM, hmethM, -, -, -, -, -, -, hsigM⟩ := Cond.code_spec hnamed hcode
  have hstatic : methM.isStatic = true := Cond.static_spec hnamed hmethM hstat
  obtain ⟨kP, hkP, -⟩ := className_of_methodNamed hnamed
  have hinitP : kP.init = .initialized := Cond.initialized_spec (findClass_of_methodNamed hnamed) hkP hinit
  obtain ⟨vm₁, X₁, hstep₁⟩ := X.invokestatic hexec hown hlink hnamed hmethM hstatic hkP hinitP hy (g := g) hg (argsL := argsL) (rest := rest) (hlen _ hsigM) hstack hdg
  rcases hK m meth c ⟨T.setVm vm₁, locs, cells, slots⟩ { g with stack := rest } (.invokestatic index) mk argsL.toArray X₁ hg hsize hdg hW (X₁.named hnamed) (hpre vm₁ X₁.warmed) with ⟨v, B, X', hpost, hsteps⟩ | ⟨q, B, X', hpost, hsteps⟩
  · exact Or.inl ⟨v, vm₁, B, X₁.warmed, X', hpost, fun target h => hstep₁ _ fun acts => by rw [doInvoke_state]; exact hsteps.trans h⟩
  · exact Or.inr ⟨q, vm₁, B, X₁.warmed, X', hpost, hstep₁ _ fun acts => by rw [doInvoke_state]; exact hsteps⟩
end Calls
theorem vx_cls {s : State} {T : State} {vm₁ : Vm} {E : String} {k : ClassId} (hW : s.WarmedH vm₁) (h : (T.setVm vm₁).vm.findClass E = some k) : s.vm.findClass E = some k := by
  have h1 : vm₁.findClass E = some k := h
  rw [hW.alike.findClass] at h1
  exact h1
/-- the method's frame g, with q thrown over it -/
def vx_W (p : Program) (l : Launch) (e : Env) (R : Room) (s : State) (m : MethodId) (args : Array Value) (below : List Frame) (meth : Method) (c : Code) (H : Heap) (locs : List Loc) (cells slots : Nat) (Q : State → Prop) (g : JFrame) (q : Addr) : Prop :=
  ∀ T : State, T.heap = H → Stand p l e R s m args below meth c T locs cells slots → ∃ t, Steps p.tables e below ((T.setTop g).pushFrame (.throwing q)) t ∧ Q t
def vx_Run (p : Program) (l : Launch) (e : Env) (R : Room) (s : State) (m : MethodId) (args : Array Value) (below : List Frame) (meth : Method) (c : Code) (H : Heap) (locs : List Loc) (cells slots mc ms : Nat) (g : JFrame) (rest : List Value) (Qa : State → Outcome → State → Prop) (XC : String → State → State → Prop) (free : Addr → Prop) : Prop :=
  ∀ T : State, T.heap = H → Stand p l e R s m args below meth c T locs cells slots →
    (∃ (v : Option Value) (st₀ t T' : State) (L : List Loc), st₀.heap = H ∧ Stand p l e R s m args below meth c T' (locs ++ L) (cells + mc) (slots + ms) ∧ (∀ q ∈ L, free q.base) ∧ T'.heap = t.heap ∧ T'.vm = t.vm ∧ Qa st₀ (.returned v) t ∧
      Goes p e below T g T' { g with pc := g.pc + 3, stack := v.toList ++ rest }) ∨
    (∃ (q : Addr) (st₀ t T' : State) (L : List Loc) (E : String) (ce : Cell), st₀.heap = H ∧ Stand p l e R s m args below meth c T' (locs ++ L) (cells + mc) (slots + ms) ∧ (∀ z ∈ L, free z.base) ∧ T'.heap = t.heap ∧ T'.vm = t.vm ∧ XC E st₀ t ∧ t.heap[q]? = some ce ∧ ce.vm = .none ∧ s.vm.findClass E = some ce.cls ∧
      Steps p.tables e below (T.setTop g) ((T'.setTop { g with stack := rest }).pushFrame (.throwing q)))
def vx_X {S : Type} (px : S → Prop) (B : String → S → State → Prop) (A : Nat → Prop) : String → State → State → Prop := fun E st t => ∃ u : S, px u ∧ B E u t ∧ va_F A st t
section Runs
variable {p : Program} {l : Launch} {e : Env} {R : Room} {s : State} {m : MethodId} {args : Array Value} {below : List Frame} {meth : Method} {c : Code} {H : Heap} {locs : List Loc} {cells slots : Nat}
variable {y : MethodName} {bytes cc : ByteArray} {maxL nL mc ms n index : Nat} {ret : Option FieldType} {ws : List Cond} {rm : Room} {Pc : Array Value → State → Prop} {Qc : Array Value → State → Outcome → State → Prop} {XC : String → State → State → Prop} {free : Addr → Prop} {Ts : List Cond} {own C : String} {b : Addr} {As rest : List Value} {g : JFrame}
theorem vx_callBack (cb : CallB R s args own index y bytes maxL ret ws rm mc ms n) (hM : vx_Met l y ws rm Pc Qc XC mc ms free) (hbl : FrameBlind Pc) : vx_Back l R p e below s args y 3 8 (PreOf R mc ms Pc) (PostOf Qc mc ms free) (vx_Post XC mc ms free) := by
  obtain ⟨hrc, hrs, hfr, hlo, hws, hcw, -, hini, -⟩ := cb
  exact vx_back (bytes := bytes) (maxL := maxL) (ret := ret) hM hbl hrc hrs hfr hlo hws hcw (fun a' U hW => word_at hW (Or.inl (by first | rfl | simp [Cond.onTables, Cond.keeps, Cond.steady])) hini)
theorem vx_runV (S : CallFix p m c cc nL s args Ts own) (hM : vx_Met l y ws rm Pc Qc XC mc ms free) (cw : CallW R s args own C index y bytes maxL ret ws rm mc ms n) (hp : PreV s H C b Pc As)
    (hg : g.method = m) (hn : As.length = n) (hsize : g.locals.size = nL) (hstack : g.stack = As.reverse ++ .ref b :: rest) (hW : 2 * g.monitorRoom + (rest.map fun v => v.category).sum ≤ 8) (hdg : decode cc g.pc = .ok (.invokevirtual index, 3)) (hf : cells + mc ≤ R.cells ∧ slots + ms ≤ R.slots) :
    vx_Run p l e R s m args below meth c H locs cells slots mc ms g rest (Qc (Value.ref b :: As).toArray) XC free := by
  have hK : vx_Back l R p e below s args y 3 8 (PreOf R mc ms Pc) (PostOf Qc mc ms free) (vx_Post XC mc ms free) := vx_callBack cw.1 hM hp.1
  obtain ⟨⟨-, -, -, -, -, -, hcode, -, hy, hlen, hl⟩, hin, hse⟩ := cw
  obtain ⟨hx, hb, hml, ho, -⟩ := S
  obtain ⟨-, ⟨cellB, hcB, hoB, hclB⟩, hPc⟩ := hp
  intro T hT X
  rcases vx_callV X hx (C := C) (bytes := bytes) (maxL := maxL) (ret := ret) ho hl hin hse hcode hy hK (by rw [hT]; exact hcB) hoB hclB hg (hsize.trans hml.symm) (argsL := As) (rest := rest) (fun sig h => hn.trans (hlen sig h)) hstack hW (by rw [hb]; exact hdg)
    (fun vm₁ hW₁ => ⟨hf.1, hf.2, hPc (T.setVm vm₁) hT hW₁⟩) with ⟨v, vm₁, ⟨U', l2, c2, s2⟩, hW₁, X', ⟨g', mk, t, L, e1, e2, hq, h1, hL, h2, h3⟩, st⟩ | ⟨q, vm₁, ⟨U', l2, c2, s2⟩, hW₁, X', ⟨g', mk, t, L, E, ce, e1, e2, hq, hce, hcv, hcl, h1, hL, h2, h3⟩, st⟩
  · dsimp only [Pt.U, Pt.locs, Pt.cells, Pt.slots] at X' e1 e2 h1 h2 h3 st
    subst h1; subst h2; subst h3
    exact Or.inl ⟨v, (T.setVm vm₁).calling g' mk (Value.ref b :: As).toArray, t, U', L, hT, X', hL, e1, e2, hq, st⟩
  · dsimp only [Pt.U, Pt.locs, Pt.cells, Pt.slots] at X' e1 e2 h1 h2 h3 st hcl
    subst h1; subst h2; subst h3
    exact Or.inr ⟨q, (T.setVm vm₁).calling g' mk (Value.ref b :: As).toArray, t, U', L, E, ce, hT, X', hL, e1, e2, hq, hce, hcv, vx_cls hW₁ hcl, st⟩
theorem vx_runS (S : CallFix p m c cc nL s args Ts own) (hM : vx_Met l y ws rm Pc Qc XC mc ms free) (cw : CallB R s args own index y bytes maxL ret ws rm mc ms n ∧ (Cond.static y).before args s = true) (hp : PreS s H Pc As)
    (hg : g.method = m) (hn : As.length = n) (hsize : g.locals.size = nL) (hstack : g.stack = As.reverse ++ rest) (hW : 2 * g.monitorRoom + (rest.map fun v => v.category).sum ≤ 8) (hdg : decode cc g.pc = .ok (.invokestatic index, 3)) (hf : cells + mc ≤ R.cells ∧ slots + ms ≤ R.slots) :
    vx_Run p l e R s m args below meth c H locs cells slots mc ms g rest (Qc As.toArray) XC free := by
  have hK : vx_Back l R p e below s args y 3 8 (PreOf R mc ms Pc) (PostOf Qc mc ms free) (vx_Post XC mc ms free) := vx_callBack cw.1 hM hp.1
  obtain ⟨⟨-, -, -, -, -, -, hcode, hini, hy, hlen, hl⟩, hstt⟩ := cw
  obtain ⟨hx, hb, hml, ho, -⟩ := S
  intro T hT X
  rcases vx_callS X hx (bytes := bytes) (maxL := maxL) (ret := ret) ho hl hstt hini hcode hy hK hg (hsize.trans hml.symm) (argsL := As) (rest := rest) (fun sig h => hn.trans (hlen sig h)) hstack hW (by rw [hb]; exact hdg)
    (fun vm₁ hW₁ => ⟨hf.1, hf.2, hp.2 (T.setVm vm₁) hT hW₁⟩) with ⟨v, vm₁, ⟨U', l2, c2, s2⟩, hW₁, X', ⟨g', mk, t, L, e1, e2, hq, h1, hL, h2, h3⟩, st⟩ | ⟨q, vm₁, ⟨U', l2, c2, s2⟩, hW₁, X', ⟨g', mk, t, L, E, ce, e1, e2, hq, hce, hcv, hcl, h1, hL, h2, h3⟩, st⟩
  · dsimp only [Pt.U, Pt.locs, Pt.cells, Pt.slots] at X' e1 e2 h1 h2 h3 st
    subst h1; subst h2; subst h3
    exact Or.inl ⟨v, (T.setVm vm₁).calling g' mk As.toArray, t, U', L, hT, X', hL, e1, e2, hq, st⟩
  · dsimp only [Pt.U, Pt.locs, Pt.cells, Pt.slots] at X' e1 e2 h1 h2 h3 st hcl
    subst h1; subst h2; subst h3
    exact Or.inr ⟨q, (T.setVm vm₁).calling g' mk As.toArray, t, U', L, E, ce, hT, X', hL, e1, e2, hq, hce, hcv, vx_cls hW₁ hcl, st⟩
end Runs
section Rows
variable {p : Program} {l : Launch} {e : Env} {R : Room} {s : State} {m : MethodId} {args : Array Value} {below : List Frame} {meth : Method} {c : Code} {H : Heap} {locs : List Loc} {cells slots : Nat} {Q : State → Prop}
variable {mc ms : Nat} {free : Addr → Prop} {A0 A1 : Nat → Prop} {H0 : Heap} {a : Array Value} {pc : Nat} {ls : Array Slot} {st0 rest : List Value}
theorem vx_keep {st₀ t T' : State} {L : List Loc} (h0 : st₀.heap = H) (e1 : T'.heap = t.heap) (hS : va_S A0 H0 H locs) (hA : ∀ q, q < H.size → A1 q → A0 q) (hf : ∀ q, free q → A0 q) (hL : ∀ q ∈ L, free q.base) (hF : va_F A1 st₀ t) :
    H.size ≤ T'.heap.size ∧ (∀ q : Nat, q < H.size → ¬ A1 q → T'.heap[q]? = H[q]?) ∧ va_S A0 H0 T'.heap (locs ++ L) := by
  obtain ⟨hz, hk⟩ := hF
  rw [h0] at hz hk
  exact ⟨by rw [e1]; exact hz, fun q h1 h2 => by rw [e1]; exact hk q h1 h2,
    ⟨Nat.le_trans hS.1 (by rw [e1]; exact hz), fun q h1 h2 => by rw [e1, hk q (Nat.lt_of_lt_of_le h1 hS.1) (fun z => h2 (hA q (Nat.lt_of_lt_of_le h1 hS.1) z))]; exact hS.2.1 q h1 h2, fun q hq => by
      rcases List.mem_append.mp hq with h | h
      · exact hS.2.2 q h
      · exact hf _ (hL q h)⟩⟩
theorem vx_calli {S SX : Type} {post : Int32 → S → Prop} {px : SX → Prop} {B : S → State → Prop} {BX : String → SX → State → Prop} {AX : Nat → Prop} (hr : vx_Run p l e R s m args below meth c H locs cells slots mc ms (F0 m pc ls st0) rest (va_Qi post B A1 a) (vx_X px BX AX) free) (hS : va_S A0 H0 H locs) (hA : ∀ q, q < H.size → A1 q → A0 q) (hf : ∀ q, free q → A0 q) (hAX : ∀ q, q < H.size → AX q → A0 q)
    (kx : ∀ (E : String) (ce : Cell) (q9 : Addr) (u : SX) (t : State) (H1 : Heap) (locs1 : List Loc), t.heap = H1 → s.vm.Alike t.vm → px u → BX E u t → H.size ≤ H1.size → (∀ q : Nat, q < H.size → ¬ AX q → H1[q]? = H[q]?) → va_S A0 H0 H1 locs1 → H1[q9]? = some ce → ce.vm = .none → s.vm.findClass E = some ce.cls → vx_W p l e R s m args below meth c H1 locs1 (cells + mc) (slots + ms) Q (F0 m pc ls rest) q9)
    (kk : ∀ (r : Int32) (u : S) (t : State) (H1 : Heap) (locs1 : List Loc), t.heap = H1 → s.vm.Alike t.vm → post r u → B u t → H.size ≤ H1.size → (∀ q : Nat, q < H.size → ¬ A1 q → H1[q]? = H[q]?) → va_S A0 H0 H1 locs1 → W p l e R s m args below meth c H1 locs1 (cells + mc) (slots + ms) Q (F0 m (pc + 3) ls (.int r :: rest))) : W p l e R s m args below meth c H locs cells slots Q (F0 m pc ls st0) := by
  intro T hT X
  rcases hr T hT X with ⟨v, st₀, t, T', L, h0, X', hL, e1, e2, ⟨⟨r, u, hv, hp, hb⟩, hF⟩, st⟩ | ⟨q, st₀, t, T', L, E, ce, h0, X', hL, e1, e2, ⟨u, hp, hb, hF⟩, hce, hcv, hcl, st⟩
  · cases hv
    obtain ⟨k1, k2, k3⟩ := vx_keep h0 e1 hS hA hf hL hF
    obtain ⟨t2, a1, b1⟩ := kk r u t T'.heap (locs ++ L) e1.symm (by rw [← e2]; exact X'.warmed.alike) hp hb k1 k2 k3 T' rfl X'
    exact ⟨t2, st t2 a1, b1⟩
  · obtain ⟨k1, k2, k3⟩ := vx_keep h0 e1 hS hAX hf hL hF
    obtain ⟨t2, a1, b1⟩ := kx E ce q u t T'.heap (locs ++ L) e1.symm (by rw [← e2]; exact X'.warmed.alike) hp hb k1 k2 k3 (by rw [e1]; exact hce) hcv hcl T' rfl X'
    exact ⟨t2, st.trans a1, b1⟩
theorem vx_calll {S SX : Type} {post : Int64 → S → Prop} {px : SX → Prop} {B : S → State → Prop} {BX : String → SX → State → Prop} {AX : Nat → Prop} (hr : vx_Run p l e R s m args below meth c H locs cells slots mc ms (F0 m pc ls st0) rest (va_Ql post B A1 a) (vx_X px BX AX) free) (hS : va_S A0 H0 H locs) (hA : ∀ q, q < H.size → A1 q → A0 q) (hf : ∀ q, free q → A0 q) (hAX : ∀ q, q < H.size → AX q → A0 q)
    (kx : ∀ (E : String) (ce : Cell) (q9 : Addr) (u : SX) (t : State) (H1 : Heap) (locs1 : List Loc), t.heap = H1 → s.vm.Alike t.vm → px u → BX E u t → H.size ≤ H1.size → (∀ q : Nat, q < H.size → ¬ AX q → H1[q]? = H[q]?) → va_S A0 H0 H1 locs1 → H1[q9]? = some ce → ce.vm = .none → s.vm.findClass E = some ce.cls → vx_W p l e R s m args below meth c H1 locs1 (cells + mc) (slots + ms) Q (F0 m pc ls rest) q9)
    (kk : ∀ (r : Int64) (u : S) (t : State) (H1 : Heap) (locs1 : List Loc), t.heap = H1 → s.vm.Alike t.vm → post r u → B u t → H.size ≤ H1.size → (∀ q : Nat, q < H.size → ¬ A1 q → H1[q]? = H[q]?) → va_S A0 H0 H1 locs1 → W p l e R s m args below meth c H1 locs1 (cells + mc) (slots + ms) Q (F0 m (pc + 3) ls (.long r :: rest))) : W p l e R s m args below meth c H locs cells slots Q (F0 m pc ls st0) := by
  intro T hT X
  rcases hr T hT X with ⟨v, st₀, t, T', L, h0, X', hL, e1, e2, ⟨⟨r, u, hv, hp, hb⟩, hF⟩, st⟩ | ⟨q, st₀, t, T', L, E, ce, h0, X', hL, e1, e2, ⟨u, hp, hb, hF⟩, hce, hcv, hcl, st⟩
  · cases hv
    obtain ⟨k1, k2, k3⟩ := vx_keep h0 e1 hS hA hf hL hF
    obtain ⟨t2, a1, b1⟩ := kk r u t T'.heap (locs ++ L) e1.symm (by rw [← e2]; exact X'.warmed.alike) hp hb k1 k2 k3 T' rfl X'
    exact ⟨t2, st t2 a1, b1⟩
  · obtain ⟨k1, k2, k3⟩ := vx_keep h0 e1 hS hAX hf hL hF
    obtain ⟨t2, a1, b1⟩ := kx E ce q u t T'.heap (locs ++ L) e1.symm (by rw [← e2]; exact X'.warmed.alike) hp hb k1 k2 k3 (by rw [e1]; exact hce) hcv hcl T' rfl X'
    exact ⟨t2, st.trans a1, b1⟩
theorem vx_callf {S SX : Type} {post : UInt32 → S → Prop} {px : SX → Prop} {B : S → State → Prop} {BX : String → SX → State → Prop} {AX : Nat → Prop} (hr : vx_Run p l e R s m args below meth c H locs cells slots mc ms (F0 m pc ls st0) rest (va_Qf post B A1 a) (vx_X px BX AX) free) (hS : va_S A0 H0 H locs) (hA : ∀ q, q < H.size → A1 q → A0 q) (hf : ∀ q, free q → A0 q) (hAX : ∀ q, q < H.size → AX q → A0 q)
    (kx : ∀ (E : String) (ce : Cell) (q9 : Addr) (u : SX) (t : State) (H1 : Heap) (locs1 : List Loc), t.heap = H1 → s.vm.Alike t.vm → px u → BX E u t → H.size ≤ H1.size → (∀ q : Nat, q < H.size → ¬ AX q → H1[q]? = H[q]?) → va_S A0 H0 H1 locs1 → H1[q9]? = some ce → ce.vm = .none → s.vm.findClass E = some ce.cls → vx_W p l e R s m args below meth c H1 locs1 (cells + mc) (slots + ms) Q (F0 m pc ls rest) q9)
    (kk : ∀ (r : UInt32) (u : S) (t : State) (H1 : Heap) (locs1 : List Loc), t.heap = H1 → s.vm.Alike t.vm → post r u → B u t → H.size ≤ H1.size → (∀ q : Nat, q < H.size → ¬ A1 q → H1[q]? = H[q]?) → va_S A0 H0 H1 locs1 → W p l e R s m args below meth c H1 locs1 (cells + mc) (slots + ms) Q (F0 m (pc + 3) ls (.float r :: rest))) : W p l e R s m args below meth c H locs cells slots Q (F0 m pc ls st0) := by
  intro T hT X
  rcases hr T hT X with ⟨v, st₀, t, T', L, h0, X', hL, e1, e2, ⟨⟨r, u, hv, hp, hb⟩, hF⟩, st⟩ | ⟨q, st₀, t, T', L, E, ce, h0, X', hL, e1, e2, ⟨u, hp, hb, hF⟩, hce, hcv, hcl, st⟩
  · cases hv
    obtain ⟨k1, k2, k3⟩ := vx_keep h0 e1 hS hA hf hL hF
    obtain ⟨t2, a1, b1⟩ := kk r u t T'.heap (locs ++ L) e1.symm (by rw [← e2]; exact X'.warmed.alike) hp hb k1 k2 k3 T' rfl X'
    exact ⟨t2, st t2 a1, b1⟩
  · obtain ⟨k1, k2, k3⟩ := vx_keep h0 e1 hS hAX hf hL hF
    obtain ⟨t2, a1, b1⟩ := kx E ce q u t T'.heap (locs ++ L) e1.symm (by rw [← e2]; exact X'.warmed.alike) hp hb k1 k2 k3 (by rw [e1]; exact hce) hcv hcl T' rfl X'
    exact ⟨t2, st.trans a1, b1⟩
theorem vx_calld {S SX : Type} {post : UInt64 → S → Prop} {px : SX → Prop} {B : S → State → Prop} {BX : String → SX → State → Prop} {AX : Nat → Prop} (hr : vx_Run p l e R s m args below meth c H locs cells slots mc ms (F0 m pc ls st0) rest (va_Qd post B A1 a) (vx_X px BX AX) free) (hS : va_S A0 H0 H locs) (hA : ∀ q, q < H.size → A1 q → A0 q) (hf : ∀ q, free q → A0 q) (hAX : ∀ q, q < H.size → AX q → A0 q)
    (kx : ∀ (E : String) (ce : Cell) (q9 : Addr) (u : SX) (t : State) (H1 : Heap) (locs1 : List Loc), t.heap = H1 → s.vm.Alike t.vm → px u → BX E u t → H.size ≤ H1.size → (∀ q : Nat, q < H.size → ¬ AX q → H1[q]? = H[q]?) → va_S A0 H0 H1 locs1 → H1[q9]? = some ce → ce.vm = .none → s.vm.findClass E = some ce.cls → vx_W p l e R s m args below meth c H1 locs1 (cells + mc) (slots + ms) Q (F0 m pc ls rest) q9)
    (kk : ∀ (r : UInt64) (u : S) (t : State) (H1 : Heap) (locs1 : List Loc), t.heap = H1 → s.vm.Alike t.vm → post r u → B u t → H.size ≤ H1.size → (∀ q : Nat, q < H.size → ¬ A1 q → H1[q]? = H[q]?) → va_S A0 H0 H1 locs1 → W p l e R s m args below meth c H1 locs1 (cells + mc) (slots + ms) Q (F0 m (pc + 3) ls (.double r :: rest))) : W p l e R s m args below meth c H locs cells slots Q (F0 m pc ls st0) := by
  intro T hT X
  rcases hr T hT X with ⟨v, st₀, t, T', L, h0, X', hL, e1, e2, ⟨⟨r, u, hv, hp, hb⟩, hF⟩, st⟩ | ⟨q, st₀, t, T', L, E, ce, h0, X', hL, e1, e2, ⟨u, hp, hb, hF⟩, hce, hcv, hcl, st⟩
  · cases hv
    obtain ⟨k1, k2, k3⟩ := vx_keep h0 e1 hS hA hf hL hF
    obtain ⟨t2, a1, b1⟩ := kk r u t T'.heap (locs ++ L) e1.symm (by rw [← e2]; exact X'.warmed.alike) hp hb k1 k2 k3 T' rfl X'
    exact ⟨t2, st t2 a1, b1⟩
  · obtain ⟨k1, k2, k3⟩ := vx_keep h0 e1 hS hAX hf hL hF
    obtain ⟨t2, a1, b1⟩ := kx E ce q u t T'.heap (locs ++ L) e1.symm (by rw [← e2]; exact X'.warmed.alike) hp hb k1 k2 k3 (by rw [e1]; exact hce) hcv hcl T' rfl X'
    exact ⟨t2, st.trans a1, b1⟩
theorem vx_callv {S SX : Type} {post : S → Prop} {px : SX → Prop} {B : S → State → Prop} {BX : String → SX → State → Prop} {AX : Nat → Prop} (hr : vx_Run p l e R s m args below meth c H locs cells slots mc ms (F0 m pc ls st0) rest (va_Qv post B A1 a) (vx_X px BX AX) free) (hS : va_S A0 H0 H locs) (hA : ∀ q, q < H.size → A1 q → A0 q) (hf : ∀ q, free q → A0 q) (hAX : ∀ q, q < H.size → AX q → A0 q)
    (kx : ∀ (E : String) (ce : Cell) (q9 : Addr) (u : SX) (t : State) (H1 : Heap) (locs1 : List Loc), t.heap = H1 → s.vm.Alike t.vm → px u → BX E u t → H.size ≤ H1.size → (∀ q : Nat, q < H.size → ¬ AX q → H1[q]? = H[q]?) → va_S A0 H0 H1 locs1 → H1[q9]? = some ce → ce.vm = .none → s.vm.findClass E = some ce.cls → vx_W p l e R s m args below meth c H1 locs1 (cells + mc) (slots + ms) Q (F0 m pc ls rest) q9)
    (kk : ∀ (u : S) (t : State) (H1 : Heap) (locs1 : List Loc), t.heap = H1 → s.vm.Alike t.vm → post u → B u t → H.size ≤ H1.size → (∀ q : Nat, q < H.size → ¬ A1 q → H1[q]? = H[q]?) → va_S A0 H0 H1 locs1 → W p l e R s m args below meth c H1 locs1 (cells + mc) (slots + ms) Q (F0 m (pc + 3) ls (rest))) : W p l e R s m args below meth c H locs cells slots Q (F0 m pc ls st0) := by
  intro T hT X
  rcases hr T hT X with ⟨v, st₀, t, T', L, h0, X', hL, e1, e2, ⟨⟨u, hv, hp, hb⟩, hF⟩, st⟩ | ⟨q, st₀, t, T', L, E, ce, h0, X', hL, e1, e2, ⟨u, hp, hb, hF⟩, hce, hcv, hcl, st⟩
  · cases hv
    obtain ⟨k1, k2, k3⟩ := vx_keep h0 e1 hS hA hf hL hF
    obtain ⟨t2, a1, b1⟩ := kk u t T'.heap (locs ++ L) e1.symm (by rw [← e2]; exact X'.warmed.alike) hp hb k1 k2 k3 T' rfl X'
    exact ⟨t2, st t2 a1, b1⟩
  · obtain ⟨k1, k2, k3⟩ := vx_keep h0 e1 hS hAX hf hL hF
    obtain ⟨t2, a1, b1⟩ := kx E ce q u t T'.heap (locs ++ L) e1.symm (by rw [← e2]; exact X'.warmed.alike) hp hb k1 k2 k3 (by rw [e1]; exact hce) hcv hcl T' rfl X'
    exact ⟨t2, st.trans a1, b1⟩
/-- caught by the row x of this method's table; the rows ahead don't take it -/
theorem vx_catch {own name : String} {E : String} {ce : Cell} {q : Addr} (hown : s.vm.findClass own = some m.cls) (pre : List ExceptionTableEntry) (x : ExceptionTableEntry) (suf : List ExceptionTableEntry) (hsplit : c.exceptionTable.toList = pre ++ x :: suf)
    (hpass : ∀ z ∈ pre, covers z pc = false ∨ (z.catchType ≠ 0 ∧ ∃ nm : String, (Cond.classLink own z.catchType nm).before args s = true ∧ va_Nc E nm s)) (hx : covers x pc = true) (h0 : x.catchType ≠ 0)
    (hlink : (Cond.classLink own x.catchType name).before args s = true) (hcast : (Cond.castable E name).before args s = true) (hcell : H[q]? = some ce) (hv : ce.vm = .none) (hcl : s.vm.findClass E = some ce.cls)
    (kk : W p l e R s m args below meth c H locs cells slots Q (F0 m x.handlerPc ls [.ref q])) : vx_W p l e R s m args below meth c H locs cells slots Q (F0 m pc ls rest) q := by
  intro T hT X
  have hpl : e.platform.magicAccessors = ({} : Platform).magicAccessors := by rw [X.admits.platform]
  obtain ⟨c3, c4, hc3, hc4, hasg⟩ := Cond.castable_spec hcast
  cases Option.some.inj (hc3.symm.trans hcl)
  obtain ⟨c5, hc5, hcl5⟩ := Cond.classLink_spec hown hlink e.platform hpl
  cases Option.some.inj (hc4.symm.trans hc5)
  obtain ⟨vm', X', st⟩ := X.thenCaughtThrough q (g := F0 m pc ls rest) rfl (Steps.refl _) (by rw [hT]; exact hcell) (by rw [hv]; rfl) (by obtain ⟨k9, h9, -⟩ := Vm.findClass_spec hcl; exact ⟨k9, h9⟩) pre x suf hsplit
    (fun z hz => by
      rcases hpass z hz with h | ⟨hz0, nm, hl1, hn1⟩
      · exact Or.inl h
      · obtain ⟨c6, hc6, hcl6⟩ := Cond.classLink_spec hown hl1 e.platform hpl
        obtain ⟨a8, b8, h1, h2, h3⟩ := hn1
        cases Option.some.inj (h1.symm.trans hcl)
        cases Option.some.inj (h2.symm.trans hc6)
        exact Or.inr ⟨hz0, _, hcl6, h3⟩) hx (Or.inr ⟨h0, c4, hcl5, hasg⟩)
  obtain ⟨t, a1, b1⟩ := kk (T.setVm vm') hT X'
  exact ⟨t, st.trans a1, b1⟩
end Rows
section Ends
variable {p : Program} {l : Launch} {e : Env} {R : Room} {s : State} {m : MethodId} {args : Array Value} {below : List Frame} {meth : Method} {c : Code} {H : Heap} {locs : List Loc} {cells slots : Nat} {Q : State → Prop}
variable {mc ms : Nat} {free : Addr → Prop} {A0 A1 : Nat → Prop} {H0 : Heap} {a : Array Value} {ls : Array Slot} {st0 rest : List Value}
variable {Qc : Array Value → State → Outcome → State → Prop} {XC : String → State → State → Prop}
/-- what a body that may throw owes at its end -/
def vx_MQ (below : List Frame) (Qc : Array Value → State → Outcome → State → Prop) (XC : String → State → State → Prop) (a : Array Value) (s : State) (mc ms : Nat) (free : Addr → Prop) : State → Prop := fun t =>
  ∃ o, t.status = .running ∧ Ended t below o ∧ vx_Q Qc XC mc ms free a s o t
theorem vx_ret {g : JFrame} {mc ms : Nat} (k : W p l e R s m args below meth c H locs cells slots (MQ below Qc args s mc ms free) g) : W p l e R s m args below meth c H locs cells slots (vx_MQ below Qc XC args s mc ms free) g := by
  intro T hT X
  obtain ⟨t, a1, o, b1, b2, b3, b4⟩ := k T hT X
  exact ⟨t, a1, o, b1, b2, Or.inl ⟨b3, b4⟩⟩
/-- not caught here: it goes on to the caller -/
theorem vx_widen {g : JFrame} {q : Addr} {k n : Nat} (h1 : cells ≤ k) (h2 : slots ≤ n) (kk : vx_W p l e R s m args below meth c H locs k n Q g q) : vx_W p l e R s m args below meth c H locs cells slots Q g q := fun T hT X => kk T hT (stand_widen X h1 h2)
theorem vx_out {pc : Nat} {E : String} {ce : Cell} {q : Addr} {mc ms : Nat} (hout : ∀ x ∈ c.exceptionTable.toList, covers x pc = false) (hlocks : meth.locks = false) (hcell : H[q]? = some ce) (hv : ce.vm = .none) (hcl : s.vm.findClass E = some ce.cls)
    (hx : ∀ t : State, t.heap = H → s.vm.Alike t.vm → XC E s t) (hf : ∀ z ∈ locs, free z.base) (hc : cells ≤ mc) (hs : slots ≤ ms) :
    vx_W p l e R s m args below meth c H locs cells slots (vx_MQ below Qc XC args s mc ms free) (F0 m pc ls rest) q := by
  intro T hT X
  obtain ⟨st1, hrun, hend, hW, hsm⟩ := X.leaveThrown q (g := F0 m pc ls rest) rfl rfl rfl hout hlocks
  have hcell9 : (T.setFrames (.throwing q :: below)).heap[q]? = some ce := by
    show T.heap[q]? = some ce
    rw [hT]; exact hcell
  exact ⟨_, st1, .threw q, hrun, hend, Or.inr ⟨q, rfl, E, ce, locs, hx _ hT hW.alike, hcell9, hv, hcl, hW, hsm.mono hc hs, hf⟩⟩
theorem vx_frame {U : State} {k n : Nat} (h : s.sameButNew ({ U with vm := s.vm } : State) locs k n) : s.heap.size ≤ U.heap.size ∧ ∀ q : Nat, q < s.heap.size → (∀ z ∈ locs, z.base ≠ q) → U.heap[q]? = s.heap[q]? := by
  obtain ⟨-, h2, -, -, -, h6⟩ := h
  refine ⟨h2, fun q hq hz => ?_⟩
  obtain ⟨c9, e1, e2, e3, e4⟩ := h6 q _ (Array.getElem?_eq_getElem hq)
  have hs : c9.slots = (s.heap[q]).slots := Array.ext_getElem? fun i => e4 i fun hm => hz _ hm rfl
  have h9 : c9 = s.heap[q] := by
    rw [hs] at e2
    exact e2
  have e5 : U.heap[q]? = some c9 := e1
  rw [e5, h9, Array.getElem?_eq_getElem hq]
/-- the words of a throw but the four that speak of the heap -/
def vx_no (w : Cond) : Bool := decide (w ≠ .isRef (.static Bundle.tN "UNASSIGNED_STACK" Bundle.steD)) && decide (w ≠ .isRef (.static Bundle.tN "SUPPRESSED_SENTINEL" Bundle.listD)) && decide (w ≠ .laysStatic Bundle.tN "UNASSIGNED_STACK" Bundle.steD) && decide (w ≠ .laysStatic Bundle.tN "SUPPRESSED_SENTINEL" Bundle.listD)
def vx_at0 (own : String) (ic : Nat) (X : String) (names : List String) : List Cond := (Bundle.ownAtoms0 own ic X names).filter vx_no
def vx_atS (own : String) (ic : Nat) (X : String) (names : List String) : List Cond := (Bundle.ownAtoms own ic X names).filter vx_no
/-- a word that the tables alone decide, or a good one -/
def vx_ot (w : Cond) : Bool := w.onTables || goodWord w
theorem vx_ot_at {args a' : Array Value} {s U : State} {w : Cond} (hW : s.WarmedH U.vm) (hvm : s.vm = U.vm) (hg : vx_ot w = true) (h : w.before args s = true) : w.before a' U = true := by
  simp only [vx_ot, Bool.or_eq_true] at hg
  rcases hg with hg | hg
  · exact va_tabs hg hvm h
  · exact word_at hW (good_of_word hg) h
/-- a list's words: the good ones out of the method's own list, the others by premises of their own -/
theorem vx_hat {args : Array Value} {s : State} {L B : List Cond} (h1 : ∀ w ∈ L.filter goodWord, w.before args s = true) (h2 : ∀ w ∈ L.filter (fun w => !goodWord w), w ∈ B) (h3 : ∀ w ∈ B, w.before args s = true) : ∀ w ∈ L, w.before args s = true := by
  intro w hw
  by_cases g : goodWord w = true
  · exact h1 w (List.mem_filter.mpr ⟨hw, g⟩)
  · refine h3 w (h2 w (List.mem_filter.mpr ⟨hw, ?_⟩))
    show (!goodWord w) = true
    cases hgw : goodWord w
    · rfl
    · exact absurd hgw g
theorem vx_c {args : Array Value} {s : State} {w : Cond} {B : List Cond} (h : w.before args s = true) (t : ∀ w ∈ B, w.before args s = true) : ∀ w' ∈ w :: B, w'.before args s = true := fun w' h' => (List.mem_cons.mp h').elim (fun e => by rw [e]; exact h) (t w')
theorem vx_n {args : Array Value} {s : State} : ∀ w ∈ ([] : List Cond), w.before args s = true := fun _ h => nomatch h
theorem vx_own {args : Array Value} {s : State} {L : List Cond} (h1 : ∀ w ∈ L.filter vx_no, w.before args s = true)
    (hU : (Cond.isRef (.static Bundle.tN "UNASSIGNED_STACK" Bundle.steD)).before args s = true) (hN : (Cond.isRef (.static Bundle.tN "SUPPRESSED_SENTINEL" Bundle.listD)).before args s = true)
    (lU : (Cond.laysStatic Bundle.tN "UNASSIGNED_STACK" Bundle.steD).before args s = true) (lN : (Cond.laysStatic Bundle.tN "SUPPRESSED_SENTINEL" Bundle.listD).before args s = true) : ∀ w ∈ L, w.before args s = true := by
  intro w hw
  by_cases e1 : w = .isRef (.static Bundle.tN "UNASSIGNED_STACK" Bundle.steD)
  · rw [e1]; exact hU
  · by_cases e2 : w = .isRef (.static Bundle.tN "SUPPRESSED_SENTINEL" Bundle.listD)
    · rw [e2]; exact hN
    · by_cases e3 : w = .laysStatic Bundle.tN "UNASSIGNED_STACK" Bundle.steD
      · rw [e3]; exact lU
      · by_cases e4 : w = .laysStatic Bundle.tN "SUPPRESSED_SENTINEL" Bundle.listD
        · rw [e4]; exact lN
        · exact h1 w (List.mem_filter.mpr ⟨hw, by unfold vx_no; rw [decide_eq_true e1, decide_eq_true e2, decide_eq_true e3, decide_eq_true e4]; rfl⟩)
/-- where a static field lies, its class's statics cell in H -/
def vx_L (C n d : String) (A : Nat → Prop) (U : State) (H : Heap) : Prop := ∃ (c : ClassId) (k : Class) (i : Nat) (f : Field) (a : Nat) (cell : Cell), U.vm.findClass C = some c ∧ U.fieldFound? C n d = some (c, k, i, f) ∧ f.isStatic = true ∧ k.statics = some a ∧ H[a]? = some cell ∧ cell.vm.isStatics = true ∧ cell.cls = c ∧ f.slot < cell.slots.size ∧ k.staticTypes[f.slot]? = some f.type ∧ ¬ A a
theorem vx_L.moved {C n d : String} {A : Nat → Prop} {u U : State} {H : Heap} (hvm : u.vm.Alike U.vm) (h : vx_L C n d A u H) : vx_L C n d A U H := by
  obtain ⟨c, k, i, f, a, cell, h1, h2, h3, h4, h5, h6, h7, h8, h9, h10⟩ := h
  obtain ⟨k', hi', he⟩ := State.fieldFound?_setVm hvm h2
  exact ⟨c, k', i, f, a, cell, by rw [hvm.findClass]; exact h1, hi', h3, by rw [he]; exact h4, h5, h6, h7, h8, by rw [he]; exact h9, h10⟩
theorem vx_L.kept {C n d : String} {A : Nat → Prop} {U : State} {H H1 : Heap} (h : vx_L C n d A U H) (hq : ∀ a : Nat, a < H.size → ¬ A a → H1[a]? = H[a]?) : vx_L C n d A U H1 := by
  obtain ⟨c, k, i, f, a, cell, h1, h2, h3, h4, h5, h6, h7, h8, h9, h10⟩ := h
  exact ⟨c, k, i, f, a, cell, h1, h2, h3, h4, by rw [hq a (Array.getElem?_eq_some_iff.mp h5).1 h10]; exact h5, h6, h7, h8, h9, h10⟩
theorem vx_L.narrow {C n d : String} {A B : Nat → Prop} {U : State} {H : Heap} (h : vx_L C n d A U H) (hAB : ∀ q, B q → A q) : vx_L C n d B U H := by
  obtain ⟨c, k, i, f, a, cell, h1, h2, h3, h4, h5, h6, h7, h8, h9, h10⟩ := h
  exact ⟨c, k, i, f, a, cell, h1, h2, h3, h4, h5, h6, h7, h8, h9, fun z => h10 (hAB _ z)⟩
theorem vx_L.word {C n d : String} {A : Nat → Prop} {s : State} {args : Array Value} (h : vx_L C n d A s s.heap) : (Cond.laysStatic C n d).before args s = true := by
  obtain ⟨c, k, i, f, a, cell, h1, h2, h3, h4, h5, h6, h7, h8, h9, -⟩ := h
  show (Cond.laysStatic C n d).holds args s none s [] = true
  exact Cond.laysStatic_of h1 h2 h3 h4 h5 h6 h7 h8 h9
/-- .. and what it holds: null or some reference -/
def vx_Zq (C n d : String) (A : Nat → Prop) (U : State) (H : Heap) : Prop := va_Zq C n d A U H ∧ vx_L C n d A U H
theorem vx_Zq.moved {C n d : String} {A : Nat → Prop} {u U : State} {H : Heap} (hvm : u.vm.Alike U.vm) (h : vx_Zq C n d A u H) : vx_Zq C n d A U H := ⟨va_Zq.moved hvm h.1, vx_L.moved hvm h.2⟩
theorem vx_Zq.kept {C n d : String} {A : Nat → Prop} {U : State} {H H1 : Heap} (h : vx_Zq C n d A U H) (hq : ∀ a : Nat, a < H.size → ¬ A a → H1[a]? = H[a]?) : vx_Zq C n d A U H1 := ⟨va_Zq.kept h.1 hq, vx_L.kept h.2 hq⟩
theorem vx_Zq.narrow {C n d : String} {A B : Nat → Prop} {U : State} {H : Heap} (h : vx_Zq C n d A U H) (hAB : ∀ q, B q → A q) : vx_Zq C n d B U H := ⟨va_Zq.narrow h.1 hAB, vx_L.narrow h.2 hAB⟩
theorem vx_Zqof {args : Array Value} {s : State} {C n d : String} {A : Nat → Prop} (hl : (Cond.laysStatic C n d).before args s = true) (hini : (Cond.initialized C).before args s = true) (h : (Cond.isRef (.static C n d)).before args s = true) (hA : ∀ a : Nat, a < s.heap.size → ¬ A a) : vx_Zq C n d A s s.heap := by
  refine ⟨va_Zqof hl hini h hA, ?_⟩
  obtain ⟨c, k, i, f, a, cell, h1, h2, h3, h4, h5, h6, h7, h8, h9⟩ := Cond.laysStatic_spec hl
  exact ⟨c, k, i, f, a, cell, h1, h2, h3, h4, h5, h6, h7, h8, h9, hA a (Array.getElem?_eq_some_iff.mp h5).1⟩
theorem vx_isRef {C n d : String} {v : Value} {A : Nat → Prop} {s : State} {args : Array Value} (h : va_Z C n d v A s s.heap) (hv : v.isRef = true) : (Cond.isRef (.static C n d)).before args s = true := by
  obtain ⟨cf, kf, fi, f, a, cell, h1, h2, h3, h4, h5, h6, h7, -⟩ := h
  have he : (Term.static C n d).eval args s none [] s = some v := by
    simp [Term.eval, State.fieldNamed?, h1, h2, h4, h5, h6, h7]
  simp only [Cond.before, Cond.holds, Cond.value, he]
  cases v <;> simp_all [Value.isRef]
theorem vx_isRefq {C n d : String} {A : Nat → Prop} {s : State} {args : Array Value} (h : va_Zq C n d A s s.heap) : (Cond.isRef (.static C n d)).before args s = true := by
  rcases h with h | ⟨t, h⟩
  · exact vx_isRef h rfl
  · exact vx_isRef h rfl
/-- the same frame, seen from here: as if the method were called anew in this heap -/
theorem vx_rebase {T : State} (X : Stand p l e R s m args below meth c T locs cells slots) {R' : Room} (hf : R'.frames ≤ R.frames) (hl : R'.locals ≤ R.locals) (hc : cells + R'.cells ≤ R.cells) (hs : slots + R'.slots ≤ R.slots) :
    Stand p l e R' ((T.setVm s.vm).setFrames (.invoking m args :: below)) m args below meth c T [] 0 0 := by
  have htop : (T.setVm s.vm).topJava?.isSome := X.here.top
  have hF : ((T.setVm s.vm).setFrames (.invoking m args :: below)).frames = .invoking m args :: below := State.frames_setFrames _ (State.cur_lt_of_top htop)
  obtain ⟨g₀, hg0⟩ := Option.isSome_iff_exists.mp htop
  obtain ⟨r, hr⟩ := State.topJava?_eq_some.mp hg0
  have hl9 : e.platform.stackLimits (T.setVm s.vm).me = e.platform.stackLimits s.me := X.limits
  have hb9 : (T.setVm s.vm).me.stackBytes = s.me.stackBytes := X.bytes
  refine ⟨X.admits, X.cas, X.clock, hF, ?_, X.hears, X.method, X.code, X.here, X.tail, X.warmed, ?_, ?_, ?_⟩
  · have h := X.room
    have hU : ((T.setVm s.vm).setFrames (.invoking m args :: below)).localsInUse = s.localsInUse := by
      rw [State.localsInUse_invoking hF (meth := meth) (c := c) X.method X.code, State.localsInUse_invoking X.frames X.method X.code]
    simp only [State.hasRoom, Bool.and_eq_true, decide_eq_true_eq] at h ⊢
    obtain ⟨⟨⟨⟨h1, h2, h3, h4, h5, h6⟩, h7⟩, h8⟩, h9⟩ := h
    rw [X.frames, List.length_cons] at h2 h3
    have q1 := X.heapSize
    have q2 := X.used
    simp only [hF, hU, List.length_cons, State.stackLimits_setFrames, State.stackBytes_setFrames, hl9, hb9]
    refine ⟨⟨⟨⟨by omega, by omega, by omega, by omega, by omega, h6⟩, ?_⟩, ?_⟩, X.book⟩
    · show T.heap.size + R'.cells ≤ e.platform.maxCells
      omega
    · show T.slotsUsed + R'.slots ≤ e.platform.maxSlots
      omega
  · rw [State.stackLimits_setFrames]; rfl
  · rw [State.stackBytes_setFrames]; rfl
  · refine ⟨?_, Nat.le_refl _, Nat.le_refl _, ?_, ?_, fun a c9 h9 => ⟨c9, h9, rfl, rfl, fun _ _ => rfl⟩⟩
    · obtain ⟨t, ht, -⟩ := State.frames_cons hr
      show T.setVm s.vm = { ((T.setVm s.vm).setFrames (.invoking m args :: below)).setFrames (T.setVm s.vm).frames with heap := T.heap, slotsUsed := T.slotsUsed }
      rw [State.setFrames_setFrames, State.setFrames_self ht]
      rfl
    · show T.slotsUsed = T.slotsUsed + ((T.heap.toList.drop T.heap.size).map (·.slots.size)).sum
      rw [List.drop_eq_nil_of_le (Nat.le_of_eq Array.length_toList)]
      rfl
    · show ((T.heap.toList.drop T.heap.size).map (·.slots.size)).sum ≤ 0
      rw [List.drop_eq_nil_of_le (Nat.le_of_eq Array.length_toList)]
      exact Nat.le_refl _
/-- 'throw new E()': new; dup; invokespecial; athrow -/
theorem vx_throw0 {cc : ByteArray} {pc : Nat} (hexec : p.tables.exec = Jvm.exec) (hb : c.code = cc) (hl : l.stackTraces = false) {own cls : String} {names : List String} {ik ic mc ms : Nat} {A : Nat → Prop}
    (hown : s.vm.findClass own = some m.cls) (hcls : Bundle.fit cls = true) (hnames : ∀ n ∈ names, Bundle.fit n = true)
    (hk : (Cond.classLink own ik cls).before args s = true) (hini : (Cond.initialized cls).before args s = true) (hat : ∀ w ∈ vx_at0 own ic cls names, w.before args s = true)
    (hgood : ∀ w ∈ Cond.classLink own ik cls :: Cond.initialized cls :: vx_at0 own ic cls names, vx_ot w = true)
    (hU : vx_Zq Bundle.tN "UNASSIGNED_STACK" Bundle.steD A s s.heap) (hN : vx_Zq Bundle.tN "SUPPRESSED_SENTINEL" Bundle.listD A s s.heap) (hS : va_S A s.heap H locs) (hsize : ls.size = c.maxLocals)
    (d0 : decode cc pc = .ok (.new ik, 3)) (d3 : decode cc (pc + 3) = .ok (.dup, 1)) (d4 : decode cc (pc + 4) = .ok (.invokespecial ic, 3)) (d7 : decode cc (pc + 7) = .ok (.athrow, 1))
    (hout : ∀ x ∈ c.exceptionTable.toList, covers x (pc + 7) = false)
    (hRframes : names.length + 3 < R.frames) (hRlocals : (rest.map fun v => v.category).sum + (13 * (names.length + 1) + 42) ≤ R.locals) (hRcells : cells + 1 ≤ R.cells) (hRslots : slots + 6 ≤ R.slots) (hlocks : meth.locks = false)
    (hx : ∀ t : State, s.vm.Alike t.vm → H.size ≤ t.heap.size → (∀ q : Nat, q < H.size → t.heap[q]? = H[q]?) → XC cls s t)
    (hf : ∀ z ∈ locs, free z.base) (hc : cells + 1 ≤ mc) (hs : slots + 6 ≤ ms) :
    W p l e R s m args below meth c H locs cells slots (vx_MQ below Qc XC args s mc ms free) (F0 m pc ls rest) := by
  intro T hT X
  have htr : e.platform.stackTraces = false := (show e.platform.stackTraces = l.stackTraces by rw [X.admits.platform]).trans hl
  have Y := vx_rebase X (R' := { frames := R.frames, locals := R.locals, cells := 1, slots := 6 }) (Nat.le_refl _) (Nat.le_refl _) hRcells hRslots
  obtain ⟨s', hA⟩ : ∃ z, z = (T.setVm s.vm).setFrames (.invoking m args :: below) := ⟨_, rfl⟩
  rw [← hA] at Y
  have hvm : s'.vm = s.vm := by rw [hA]; rfl
  have hhp : s'.heap = H := by rw [hA]; exact hT
  have hW0 : s.WarmedH s'.vm := by rw [hvm]; exact State.WarmedH.refl s
  have hat' : ∀ w ∈ vx_at0 own ic cls names, w.before args s' = true := fun w hw => vx_ot_at hW0 hvm.symm (hgood w (List.mem_cons_of_mem _ (List.mem_cons_of_mem _ hw))) (hat w hw)
  have hk' : (Cond.classLink own ik cls).before args s' = true := vx_ot_at hW0 hvm.symm (hgood _ List.mem_cons_self) hk
  have hini' : (Cond.initialized cls).before args s' = true := vx_ot_at hW0 hvm.symm (hgood _ (List.mem_cons_of_mem _ List.mem_cons_self)) hini
  have hU' : vx_Zq Bundle.tN "UNASSIGNED_STACK" Bundle.steD A s' s'.heap := by rw [hhp]; exact vx_Zq.moved hW0.alike (hU.kept hS.2.1)
  have hN' : vx_Zq Bundle.tN "SUPPRESSED_SENTINEL" Bundle.listD A s' s'.heap := by rw [hhp]; exact vx_Zq.moved hW0.alike (hN.kept hS.2.1)
  have h : ∀ w ∈ Bundle.ownAtoms0 own ic cls names, w.before args s' = true := vx_own hat' (vx_isRefq hU'.1) (vx_isRefq hN'.1) hU'.2.word hN'.2.word
  have hown' : s'.vm.findClass own = some m.cls := by rw [hvm]; exact hown
  have hins : (Cond.instantiable cls 6).before args s' = true := h _ (by simp [Bundle.ownAtoms0])
  obtain ⟨vm₁, cX, kX, hfX, hkX, -, -, X₁, st1⟩ := Y.newCold hexec (own := own) (C := cls) (index := ik) (n := 6) hown' hk' hins hini'
    (g := F0 m pc ls rest) rfl (by rw [hb]; exact d0) (Nat.le_refl _) (Nat.le_refl _)
  generalize hT1 : (T.setVm vm₁).pushCell { cls := cX, slots := kX.instanceTypes.map defaultValue, vm := .none } = T1 at X₁ st1
  have hcat : (Value.ref T.heap.size).category = 1 := rfl
  have hcellA : T1.heap[T.heap.size]? = some (freshCell cX kX) := by rw [← hT1]; exact State.heap_pushCell_size _ _
  have d3' : decode c.code (pc + 3) = .ok (.dup, 1) := by rw [hb]; exact d3
  obtain ⟨U, hsteps, hrun, hend, hW, hsame, ce, hce, hO⟩ := X₁.ctorThrow0 hexec htr (own := own) (cls := cls) (names := names) (ic := ic) hown' hcls hnames h (fun x hx => nomatch hx) hfX hkX hcellA (by rw [hhp, hT]; exact Nat.le_refl _)
    (g := { method := m, pc := pc + 4, locals := ls, stack := .ref T.heap.size :: .ref T.heap.size :: rest, locked := none }) rfl hsize rfl rfl (rest := rest) rfl
    (by rw [hb]; exact d4) (by rw [hb]; exact d7) hout hRframes (by simp only [List.map_cons, List.sum_cons, hcat]; omega) hlocks
  obtain ⟨f1, f2⟩ := vx_frame hsame
  rw [hhp] at f1 f2
  have hWs : s.WarmedH U.vm := State.WarmedH.trans hW0 hW
  have hcl : s.vm.findClass cls = some ce.cls := by
    have h9 := hO.cls
    rw [hvm] at h9
    exact h9
  have hall : s.sameButNew ({ U with vm := s.vm } : State) locs mc ms := by
    subst hA
    obtain ⟨e1, e2⟩ := hsame
    rw [State.setFrames_setFrames] at e1
    have h2 : (T.setVm s.vm).sameButNew ({ U with vm := s.vm } : State) [] (0 + 1) (0 + 6) := ⟨e1, e2⟩
    have h3 := X.same.trans h2
    rw [List.append_nil] at h3
    exact h3.mono hc hs
  refine ⟨U, ?_, .threw T.heap.size, hrun, hend, Or.inr ⟨T.heap.size, rfl, cls, ce, locs, hx U hWs.alike f1 (fun q hq => f2 q hq (fun z hz => nomatch hz)), hce, hO.vm, hcl, hWs, hall, hf⟩⟩
  refine st1 _ ?_
  show Steps p.tables e below (T1.setTop { method := m, pc := pc + 3, locals := ls, stack := .ref T.heap.size :: rest, locked := none }) _
  jvm_step X₁.here [X₁.here.top, hexec, d3', Value.category]
  exact hsteps
/-- 'throw new E("text")': new; dup; ldc; invokespecial; athrow -/
theorem vx_throwS {cc : ByteArray} {pc : Nat} (hexec : p.tables.exec = Jvm.exec) (hb : c.code = cc) (hl : l.stackTraces = false) {own cls text : String} {names : List String} {ik is ic mc ms sa : Nat} {A : Nat → Prop}
    (hown : s.vm.findClass own = some m.cls) (hcls : Bundle.fit cls = true) (hnames : ∀ n ∈ names, Bundle.fit n = true)
    (hk : (Cond.classLink own ik cls).before args s = true) (hini : (Cond.initialized cls).before args s = true) (hstr : vk_R own is text sa s) (hat : ∀ w ∈ vx_atS own ic cls names, w.before args s = true)
    (hgood : ∀ w ∈ Cond.classLink own ik cls :: Cond.initialized cls :: vx_atS own ic cls names, vx_ot w = true)
    (hU : vx_Zq Bundle.tN "UNASSIGNED_STACK" Bundle.steD A s s.heap) (hN : vx_Zq Bundle.tN "SUPPRESSED_SENTINEL" Bundle.listD A s s.heap) (hS : va_S A s.heap H locs) (hsize : ls.size = c.maxLocals)
    (d0 : decode cc pc = .ok (.new ik, 3)) (d3 : decode cc (pc + 3) = .ok (.dup, 1)) (d4 : decode cc (pc + 4) = .ok (.ldc is, 2)) (d6 : decode cc (pc + 6) = .ok (.invokespecial ic, 3)) (d9 : decode cc (pc + 9) = .ok (.athrow, 1))
    (hout : ∀ x ∈ c.exceptionTable.toList, covers x (pc + 9) = false)
    (hRframes : names.length + 3 < R.frames) (hRlocals : (rest.map fun v => v.category).sum + (13 * (names.length + 1) + 43) ≤ R.locals) (hRcells : cells + 1 ≤ R.cells) (hRslots : slots + 6 ≤ R.slots) (hlocks : meth.locks = false)
    (hx : ∀ t : State, s.vm.Alike t.vm → H.size ≤ t.heap.size → (∀ q : Nat, q < H.size → t.heap[q]? = H[q]?) → XC cls s t)
    (hf : ∀ z ∈ locs, free z.base) (hc : cells + 1 ≤ mc) (hs : slots + 6 ≤ ms) :
    W p l e R s m args below meth c H locs cells slots (vx_MQ below Qc XC args s mc ms free) (F0 m pc ls rest) := by
  intro T hT X
  have htr : e.platform.stackTraces = false := (show e.platform.stackTraces = l.stackTraces by rw [X.admits.platform]).trans hl
  have Y := vx_rebase X (R' := { frames := R.frames, locals := R.locals, cells := 1, slots := 6 }) (Nat.le_refl _) (Nat.le_refl _) hRcells hRslots
  obtain ⟨s', hA⟩ : ∃ z, z = (T.setVm s.vm).setFrames (.invoking m args :: below) := ⟨_, rfl⟩
  rw [← hA] at Y
  have hvm : s'.vm = s.vm := by rw [hA]; rfl
  have hhp : s'.heap = H := by rw [hA]; exact hT
  have hW0 : s.WarmedH s'.vm := by rw [hvm]; exact State.WarmedH.refl s
  have hat' : ∀ w ∈ vx_atS own ic cls names, w.before args s' = true := fun w hw => vx_ot_at hW0 hvm.symm (hgood w (List.mem_cons_of_mem _ (List.mem_cons_of_mem _ hw))) (hat w hw)
  have hk' : (Cond.classLink own ik cls).before args s' = true := vx_ot_at hW0 hvm.symm (hgood _ List.mem_cons_self) hk
  have hini' : (Cond.initialized cls).before args s' = true := vx_ot_at hW0 hvm.symm (hgood _ (List.mem_cons_of_mem _ List.mem_cons_self)) hini
  have hU' : vx_Zq Bundle.tN "UNASSIGNED_STACK" Bundle.steD A s' s'.heap := by rw [hhp]; exact vx_Zq.moved hW0.alike (hU.kept hS.2.1)
  have hN' : vx_Zq Bundle.tN "SUPPRESSED_SENTINEL" Bundle.listD A s' s'.heap := by rw [hhp]; exact vx_Zq.moved hW0.alike (hN.kept hS.2.1)
  have h : ∀ w ∈ Bundle.ownAtoms own ic cls names, w.before args s' = true := vx_own hat' (vx_isRefq hU'.1) (vx_isRefq hN'.1) hU'.2.word hN'.2.word
  have hown' : s'.vm.findClass own = some m.cls := by rw [hvm]; exact hown
  have hins : (Cond.instantiable cls 6).before args s' = true := h _ (by simp [Bundle.ownAtoms])
  obtain ⟨vm₁, cX, kX, hfX, hkX, -, -, X₁, st1⟩ := Y.newCold hexec (own := own) (C := cls) (index := ik) (n := 6) hown' hk' hins hini'
    (g := F0 m pc ls rest) rfl (by rw [hb]; exact d0) (Nat.le_refl _) (Nat.le_refl _)
  generalize hT1 : (T.setVm vm₁).pushCell { cls := cX, slots := kX.instanceTypes.map defaultValue, vm := .none } = T1 at X₁ st1
  have hcat : (Value.ref T.heap.size).category = 1 := rfl
  have hcellA : T1.heap[T.heap.size]? = some (freshCell cX kX) := by rw [← hT1]; exact State.heap_pushCell_size _ _
  have d3' : decode c.code (pc + 3) = .ok (.dup, 1) := by rw [hb]; exact d3
  have d4' : decode c.code (pc + 4) = .ok (.ldc is, 2) := by rw [hb]; exact d4
  have hstr' : vk_R own is text sa s' := vk_R.warm hW0 hstr
  obtain ⟨U, hsteps, hrun, hend, hW, hsame, ce, hce, hO⟩ := X₁.ctorThrowS hexec htr (own := own) (cls := cls) (names := names) (ic := ic) hown' hcls hnames h (fun x hx => nomatch hx) hfX hkX hcellA (by rw [hhp, hT]; exact Nat.le_refl _) (msg := .ref sa) rfl
    (g := { method := m, pc := pc + 6, locals := ls, stack := .ref sa :: .ref T.heap.size :: .ref T.heap.size :: rest, locked := none }) rfl hsize rfl rfl (rest := rest) rfl
    (by rw [hb]; exact d6) (by rw [hb]; exact d9) hout hRframes (by simp only [List.map_cons, List.sum_cons, hcat]; omega) hlocks
  obtain ⟨f1, f2⟩ := vx_frame hsame
  rw [hhp] at f1 f2
  have hWs : s.WarmedH U.vm := State.WarmedH.trans hW0 hW
  have hcl : s.vm.findClass cls = some ce.cls := by
    have h9 := hO.cls
    rw [hvm] at h9
    exact h9
  have hall : s.sameButNew ({ U with vm := s.vm } : State) locs mc ms := by
    subst hA
    obtain ⟨e1, e2⟩ := hsame
    rw [State.setFrames_setFrames] at e1
    have h2 : (T.setVm s.vm).sameButNew ({ U with vm := s.vm } : State) [] (0 + 1) (0 + 6) := ⟨e1, e2⟩
    have h3 := X.same.trans h2
    rw [List.append_nil] at h3
    exact h3.mono hc hs
  refine ⟨U, ?_, .threw T.heap.size, hrun, hend, Or.inr ⟨T.heap.size, rfl, cls, ce, locs, hx U hWs.alike f1 (fun q hq => f2 q hq (fun z hz => nomatch hz)), hce, hO.vm, hcl, hWs, hall, hf⟩⟩
  refine st1 _ ?_
  show Steps p.tables e below (T1.setTop { method := m, pc := pc + 3, locals := ls, stack := .ref T.heap.size :: rest, locked := none }) _
  jvm_step X₁.here [X₁.here.top, hexec, d3', Value.category]
  exact X₁.ldcString hexec (own := own) (text := text) (index := is) (a := sa) hown' hstr'.1 hstr'.2
    (g := { method := m, pc := pc + 4, locals := ls, stack := .ref T.heap.size :: .ref T.heap.size :: rest, locked := none }) rfl d4' _ hsteps
/-- 'throw new E("text")', the text by a wide index -/
theorem vx_throwSW {cc : ByteArray} {pc : Nat} (hexec : p.tables.exec = Jvm.exec) (hb : c.code = cc) (hl : l.stackTraces = false) {own cls text : String} {names : List String} {ik is ic mc ms sa : Nat} {A : Nat → Prop}
    (hown : s.vm.findClass own = some m.cls) (hcls : Bundle.fit cls = true) (hnames : ∀ n ∈ names, Bundle.fit n = true)
    (hk : (Cond.classLink own ik cls).before args s = true) (hini : (Cond.initialized cls).before args s = true) (hstr : vk_R own is text sa s) (hat : ∀ w ∈ vx_atS own ic cls names, w.before args s = true)
    (hgood : ∀ w ∈ Cond.classLink own ik cls :: Cond.initialized cls :: vx_atS own ic cls names, vx_ot w = true)
    (hU : vx_Zq Bundle.tN "UNASSIGNED_STACK" Bundle.steD A s s.heap) (hN : vx_Zq Bundle.tN "SUPPRESSED_SENTINEL" Bundle.listD A s s.heap) (hS : va_S A s.heap H locs) (hsize : ls.size = c.maxLocals)
    (d0 : decode cc pc = .ok (.new ik, 3)) (d3 : decode cc (pc + 3) = .ok (.dup, 1)) (d4 : decode cc (pc + 4) = .ok (.ldc_w is, 3)) (d7 : decode cc (pc + 7) = .ok (.invokespecial ic, 3)) (d10 : decode cc (pc + 10) = .ok (.athrow, 1))
    (hout : ∀ x ∈ c.exceptionTable.toList, covers x (pc + 10) = false)
    (hRframes : names.length + 3 < R.frames) (hRlocals : (rest.map fun v => v.category).sum + (13 * (names.length + 1) + 43) ≤ R.locals) (hRcells : cells + 1 ≤ R.cells) (hRslots : slots + 6 ≤ R.slots) (hlocks : meth.locks = false)
    (hx : ∀ t : State, s.vm.Alike t.vm → H.size ≤ t.heap.size → (∀ q : Nat, q < H.size → t.heap[q]? = H[q]?) → XC cls s t)
    (hf : ∀ z ∈ locs, free z.base) (hc : cells + 1 ≤ mc) (hs : slots + 6 ≤ ms) :
    W p l e R s m args below meth c H locs cells slots (vx_MQ below Qc XC args s mc ms free) (F0 m pc ls rest) := by
  intro T hT X
  have htr : e.platform.stackTraces = false := (show e.platform.stackTraces = l.stackTraces by rw [X.admits.platform]).trans hl
  have Y := vx_rebase X (R' := { frames := R.frames, locals := R.locals, cells := 1, slots := 6 }) (Nat.le_refl _) (Nat.le_refl _) hRcells hRslots
  obtain ⟨s', hA⟩ : ∃ z, z = (T.setVm s.vm).setFrames (.invoking m args :: below) := ⟨_, rfl⟩
  rw [← hA] at Y
  have hvm : s'.vm = s.vm := by rw [hA]; rfl
  have hhp : s'.heap = H := by rw [hA]; exact hT
  have hW0 : s.WarmedH s'.vm := by rw [hvm]; exact State.WarmedH.refl s
  have hat' : ∀ w ∈ vx_atS own ic cls names, w.before args s' = true := fun w hw => vx_ot_at hW0 hvm.symm (hgood w (List.mem_cons_of_mem _ (List.mem_cons_of_mem _ hw))) (hat w hw)
  have hk' : (Cond.classLink own ik cls).before args s' = true := vx_ot_at hW0 hvm.symm (hgood _ List.mem_cons_self) hk
  have hini' : (Cond.initialized cls).before args s' = true := vx_ot_at hW0 hvm.symm (hgood _ (List.mem_cons_of_mem _ List.mem_cons_self)) hini
  have hU' : vx_Zq Bundle.tN "UNASSIGNED_STACK" Bundle.steD A s' s'.heap := by rw [hhp]; exact vx_Zq.moved hW0.alike (hU.kept hS.2.1)
  have hN' : vx_Zq Bundle.tN "SUPPRESSED_SENTINEL" Bundle.listD A s' s'.heap := by rw [hhp]; exact vx_Zq.moved hW0.alike (hN.kept hS.2.1)
  have h : ∀ w ∈ Bundle.ownAtoms own ic cls names, w.before args s' = true := vx_own hat' (vx_isRefq hU'.1) (vx_isRefq hN'.1) hU'.2.word hN'.2.word
  have hown' : s'.vm.findClass own = some m.cls := by rw [hvm]; exact hown
  have hins : (Cond.instantiable cls 6).before args s' = true := h _ (by simp [Bundle.ownAtoms])
  obtain ⟨vm₁, cX, kX, hfX, hkX, -, -, X₁, st1⟩ := Y.newCold hexec (own := own) (C := cls) (index := ik) (n := 6) hown' hk' hins hini'
    (g := F0 m pc ls rest) rfl (by rw [hb]; exact d0) (Nat.le_refl _) (Nat.le_refl _)
  generalize hT1 : (T.setVm vm₁).pushCell { cls := cX, slots := kX.instanceTypes.map defaultValue, vm := .none } = T1 at X₁ st1
  have hcat : (Value.ref T.heap.size).category = 1 := rfl
  have hcellA : T1.heap[T.heap.size]? = some (freshCell cX kX) := by rw [← hT1]; exact State.heap_pushCell_size _ _
  have d3' : decode c.code (pc + 3) = .ok (.dup, 1) := by rw [hb]; exact d3
  have d4' : decode c.code (pc + 4) = .ok (.ldc_w is, 3) := by rw [hb]; exact d4
  have hstr' : vk_R own is text sa s' := vk_R.warm hW0 hstr
  obtain ⟨U, hsteps, hrun, hend, hW, hsame, ce, hce, hO⟩ := X₁.ctorThrowS hexec htr (own := own) (cls := cls) (names := names) (ic := ic) hown' hcls hnames h (fun x hx => nomatch hx) hfX hkX hcellA (by rw [hhp, hT]; exact Nat.le_refl _) (msg := .ref sa) rfl
    (g := { method := m, pc := pc + 7, locals := ls, stack := .ref sa :: .ref T.heap.size :: .ref T.heap.size :: rest, locked := none }) rfl hsize rfl rfl (rest := rest) rfl
    (by rw [hb]; exact d7) (by rw [hb]; exact d10) hout hRframes (by simp only [List.map_cons, List.sum_cons, hcat]; omega) hlocks
  obtain ⟨f1, f2⟩ := vx_frame hsame
  rw [hhp] at f1 f2
  have hWs : s.WarmedH U.vm := State.WarmedH.trans hW0 hW
  have hcl : s.vm.findClass cls = some ce.cls := by
    have h9 := hO.cls
    rw [hvm] at h9
    exact h9
  have hall : s.sameButNew ({ U with vm := s.vm } : State) locs mc ms := by
    subst hA
    obtain ⟨e1, e2⟩ := hsame
    rw [State.setFrames_setFrames] at e1
    have h2 : (T.setVm s.vm).sameButNew ({ U with vm := s.vm } : State) [] (0 + 1) (0 + 6) := ⟨e1, e2⟩
    have h3 := X.same.trans h2
    rw [List.append_nil] at h3
    exact h3.mono hc hs
  refine ⟨U, ?_, .threw T.heap.size, hrun, hend, Or.inr ⟨T.heap.size, rfl, cls, ce, locs, hx U hWs.alike f1 (fun q hq => f2 q hq (fun z hz => nomatch hz)), hce, hO.vm, hcl, hWs, hall, hf⟩⟩
  refine st1 _ ?_
  show Steps p.tables e below (T1.setTop { method := m, pc := pc + 3, locals := ls, stack := .ref T.heap.size :: rest, locked := none }) _
  jvm_step X₁.here [X₁.here.top, hexec, d3', Value.category]
  exact X₁.ldcStringW hexec (own := own) (text := text) (index := is) (a := sa) hown' hstr'.1 hstr'.2
    (g := { method := m, pc := pc + 4, locals := ls, stack := .ref T.heap.size :: .ref T.heap.size :: rest, locked := none }) rfl d4' _ hsteps
end Ends
section Bodies
variable {l : Launch}
theorem vx_ofW {y : MethodName} {ws ws' : List Cond} {rm : Room} {Pc : Array Value → State → Prop} {Qc : Array Value → State → Outcome → State → Prop} {XC : String → State → State → Prop} {mc ms : Nat} {free : Addr → Prop} {cc : ByteArray} {maxL : Nat} {ret : Option FieldType}
    (hy : plainName y.cls = true) (hw : ws = Cond.code y cc maxL ret :: ws')
    (body : ∀ p e s m args below meth c s₁, BodyLoose p l y (headSpec ws rm) cc maxL ret e s m args below meth c s₁ → c.maxLocals = maxL → (∀ x ∈ c.exceptionTable.toList, False) → Pc args s →
      W p l e (headSpec ws rm).room s m args below meth c s.heap [] 0 0 (vx_MQ below Qc XC args s mc ms free) (entryFrame m args maxL)) : vx_Met l y ws rm Pc Qc XC mc ms free := by
  refine MetFree.of_bodyS (code := cc) (maxLocals := maxL) (ret := ret) hy ?_ ?_
  · intro args s m h hn
    obtain ⟨meth, c, h1, h2, h3, h4, h5, h6, -, -⟩ := Cond.code_spec hn (atoms_spec (ws := ws) h _ (by rw [hw]; exact List.mem_cons_self))
    exact ⟨meth, c, h1, h2, h3, h4, h5, h6⟩
  · intro p e s m args below meth c s₁ B hml hP _
    have hh0 : s₁.heap = s.heap := by rw [B.state]; rfl
    have ht : ∀ x ∈ c.exceptionTable.toList, False := by
      obtain ⟨meth9, c9, h1, h2, -, -, -, -, h7, -⟩ := Cond.code_spec B.named (atoms_spec (ws := ws) B.pre _ (by rw [hw]; exact List.mem_cons_self))
      cases Option.some.inj (h1.symm.trans B.method)
      cases Option.some.inj (h2.symm.trans (Stand.of_body B).code)
      intro x hx
      rw [Array.isEmpty_iff.mp h7] at hx
      cases hx
    obtain ⟨t, a1, o, b1, b2, b3⟩ := body p e s m args below meth c s₁ B hml ht hP s₁ hh0 (Stand.of_body B)
    exact ⟨t, o, a1, b1, b2, b3⟩
/-- the table of a body with handlers -/
theorem vx_table {p : Program} {x y : MethodName} {S : Spec} {cc bytes : ByteArray} {maxL maxL' : Nat} {ret ret' : Option FieldType} {e : Env} {s s₁ : State} {m : MethodId} {args : Array Value} {below : List Frame} {meth : Method} {c : Code} {hh : List (Nat × Nat × Nat × Nat)}
    (B : BodyLoose p l y S cc maxL ret e s m args below meth c s₁) (h : (Cond.codeWith y bytes maxL' ret' hh).before args s = true) : c.exceptionTable.toList = tableOf hh := by
  obtain ⟨m9, meth9, c9, hn9, h1, h2, -, -, h6, -⟩ := Cond.codeWith_spec h
  cases Option.some.inj (hn9.symm.trans B.named)
  cases Option.some.inj (h1.symm.trans B.method)
  cases Option.some.inj (h2.symm.trans (Stand.of_body B).code)
  rw [← h6, table_eq]
end Bodies
end VXA
/-! ===== END ===== -/
/-! ===== BEGIN a static call of a method with an exception table ===== -/
section VXS
variable {p : Program} {l : Launch} {e : Env} {R : Room} {s : State} {m : MethodId} {args : Array Value} {below : List Frame} {meth : Method} {c : Code} {T : State} {H : Heap} {locs : List Loc} {cells slots : Nat}
abbrev vx_CSW (R : Room) (s : State) (args : Array Value) (own : String) (index : Nat) (y : MethodName) (bytes : ByteArray) (maxL : Nat) (ret : Option FieldType) (hh : List (Nat × Nat × Nat × Nat)) (ws : List Cond) (rm : Room) (mc ms n : Nat) : Prop :=
  (rm.cells = mc ∧ rm.slots = ms ∧ rm.frames + 1 ≤ R.frames ∧ 8 + (maxL + 11) + rm.locals ≤ R.locals ∧ (∀ w ∈ ws, ∀ (a' : Array Value) (U : State), s.WarmedH U.vm → w.before a' U = true) ∧ Cond.codeWith y bytes maxL ret hh ∈ ws) ∧
  (Cond.codeWith y bytes maxL ret hh).before args s = true ∧ (Cond.initialized y.cls).before args s = true ∧ (y.cls ≠ "java/lang/invoke/MethodHandle" ∧ y.cls ≠ "java/lang/invoke/VarHandle") ∧
  (∀ sig, parseMethodDescriptor y.desc = some sig → n = sig.parameters.length) ∧ (Cond.methodLink own index y).before args s = true ∧ (Cond.static y).before args s = true
theorem vx_cwSW {own : String} {index maxL mc ms : Nat} {y : MethodName} {bytes : ByteArray} {ret : Option FieldType} {hh : List (Nat × Nat × Nat × Nat)} {Ts ws ws' : List Cond} {rm : Room} (n : Nat) (ht : ∀ w ∈ Ts, w.before args s = true) (hT : GoodIn Ts (va_wsS own index y ws)) (hw : ws = Cond.codeWith y bytes maxL ret hh :: ws') (hrc : rm.cells = mc) (hrs : rm.slots = ms)
    (hd : y.cls ≠ "java/lang/invoke/MethodHandle" ∧ y.cls ≠ "java/lang/invoke/VarHandle" ∧ (parseMethodDescriptor y.desc).map (fun d => d.parameters.length) = some n) (hR : rm.frames + 1 ≤ R.frames ∧ 8 + (maxL + 11) + rm.locals ≤ R.locals) :
    vx_CSW R s args own index y bytes maxL ret hh ws rm mc ms n := by
  have ok : ∀ w ∈ va_wsS own index y ws, w.before args s = true := fun w h => ht w (hT w h).1
  have hG : GoodIn Ts ws := fun w h => hT w (by unfold va_wsS; exact List.mem_append_right _ h)
  have hc : Cond.codeWith y bytes maxL ret hh ∈ ws := by rw [hw]; exact List.mem_cons_self
  refine ⟨⟨hrc, hrs, hR.1, hR.2, pay_in ht hG, hc⟩, ht _ (hG _ hc).1, ok _ (by simp [va_wsS]), ⟨hd.1, hd.2.1⟩, fun sig h => ?_, ok _ (by simp [va_wsS]), ok _ (by simp [va_wsS])⟩
  have h2 := hd.2.2
  rw [h] at h2
  exact (Option.some.inj h2).symm
theorem vx_callSW (X : Stand p l e R s m args below meth c T locs cells slots) (hexec : p.tables.exec = Jvm.exec) {own : String} {index : Nat} {y : MethodName} {bytes : ByteArray} {maxL : Nat} {ret : Option FieldType} {hh : List (Nat × Nat × Nat × Nat)}
    (hown : s.vm.findClass own = some m.cls) (hlink : (Cond.methodLink own index y).before args s = true) (hstat : (Cond.static y).before args s = true) (hinit : (Cond.initialized y.cls).before args s = true)
    (hcode : (Cond.codeWith y bytes maxL ret hh).before args s = true) (hy : y.cls ≠ "java/lang/invoke/MethodHandle" ∧ y.cls ≠ "java/lang/invoke/VarHandle")
    {W9 : Nat} {Pre : Pt → Array Value → Prop} {Post : Pt → Array Value → Option Value → Pt → Prop} (hK : Back l R p e below s args y 3 W9 Pre Post)
    {g : JFrame} (hg : g.method = m) (hsize : g.locals.size = c.maxLocals) {argsL rest : List Value} (hlen : ∀ sig, parseMethodDescriptor y.desc = some sig → argsL.length = sig.parameters.length)
    (hstack : g.stack = argsL.reverse ++ rest) (hW : 2 * g.monitorRoom + (rest.map fun v => v.category).sum ≤ W9) (hdg : decode c.code g.pc = .ok (.invokestatic index, 3))
    (hpre : ∀ vm₁, s.WarmedH vm₁ → Pre ⟨T.setVm vm₁, locs, cells, slots⟩ argsL.toArray) :
    ∃ (v : Option Value) (vm₁ : Vm) (B : Pt), s.WarmedH vm₁ ∧ Stand p l e R s m args below meth c B.U B.locs B.cells B.slots ∧ Post ⟨T.setVm vm₁, locs, cells, slots⟩ argsL.toArray v B ∧
      ∀ target, Steps p.tables e below (B.U.setTop { g with pc := g.pc + 3, stack := v.toList ++ rest }) target → Steps p.tables e below (T.setTop g) target := by
  obtain ⟨mk, methM, cM, hnamed, hmethM, -, -, -, -, -, -, hsigM⟩ := Cond.codeWith_spec hcode
  have hstatic : methM.isStatic = true := Cond.static_spec hnamed hmethM hstat
  obtain ⟨kP, hkP, -⟩ := className_of_methodNamed hnamed
  have hinitP : kP.init = .initialized := Cond.initialized_spec (findClass_of_methodNamed hnamed) hkP hinit
  obtain ⟨vm₁, X₁, hstep₁⟩ := X.invokestatic hexec hown hlink hnamed hmethM hstatic hkP hinitP hy (g := g) hg (argsL := argsL) (rest := rest) (hlen _ hsigM) hstack hdg
  obtain ⟨v, B, X', hpost, hsteps⟩ := hK m meth c ⟨T.setVm vm₁, locs, cells, slots⟩ { g with stack := rest } (.invokestatic index) mk argsL.toArray X₁ hg hsize hdg hW (X₁.named hnamed) (hpre vm₁ X₁.warmed)
  exact ⟨v, vm₁, B, X₁.warmed, X', hpost, fun target h => hstep₁ _ fun acts => by rw [doInvoke_state]; exact hsteps.trans h⟩
theorem vx_runSW {y : MethodName} {bytes cc : ByteArray} {maxL nL mc ms n index : Nat} {ret : Option FieldType} {hh : List (Nat × Nat × Nat × Nat)} {ws : List Cond} {rm : Room} {Pc : Array Value → State → Prop} {Qc : Array Value → State → Outcome → State → Prop} {free : Addr → Prop} {Ts : List Cond} {own : String} {As rest : List Value} {g : JFrame}
    (S : CallFix p m c cc nL s args Ts own) (hM : Met l y ws rm Pc Qc mc ms free) (cw : vx_CSW R s args own index y bytes maxL ret hh ws rm mc ms n) (hp : PreS s H Pc As)
    (hg : g.method = m) (hn : As.length = n) (hsize : g.locals.size = nL) (hstack : g.stack = As.reverse ++ rest) (hW : 2 * g.monitorRoom + (rest.map fun v => v.category).sum ≤ 8) (hdg : decode cc g.pc = .ok (.invokestatic index, 3)) (hf : cells + mc ≤ R.cells ∧ slots + ms ≤ R.slots) :
    va_Run p l e R s m args below meth c H locs cells slots mc ms g rest (Qc As.toArray) (free) := by
  obtain ⟨⟨hrc, hrs, hfr, hlo, hws, hcw⟩, hcode, hini, hy, hlen, hl, hstt⟩ := cw
  have hK : Back l R p e below s args y 3 8 (PreOf R mc ms Pc) (PostOf Qc mc ms free) := va_backW (hh := hh) (bytes := bytes) (maxL := maxL) (ret := ret) hM hp.1 hrc hrs hfr hlo hws hcw (fun a' U hW => word_at hW (Or.inl (by first | rfl | simp [Cond.onTables, Cond.keeps, Cond.steady])) hini)
  obtain ⟨hx, hb, hml, ho, -⟩ := S
  intro T hT X
  obtain ⟨v, vm₁, ⟨U', l2, c2, s2⟩, hW₁, X', ⟨g', mk, t, L, e1, e2, hq, h1, hL, h2, h3⟩, st⟩ := vx_callSW X hx (hh := hh) (bytes := bytes) (maxL := maxL) (ret := ret) ho hl hstt hini hcode hy hK hg (hsize.trans hml.symm) (argsL := As) (rest := rest) (fun sig h => hn.trans (hlen sig h)) hstack hW (by rw [hb]; exact hdg)
    (fun vm₁ hW₁ => ⟨hf.1, hf.2, hp.2 (T.setVm vm₁) hT hW₁⟩)
  dsimp only [Pt.U, Pt.locs, Pt.cells, Pt.slots] at X' e1 e2 h1 h2 h3 st
  subst h1; subst h2; subst h3
  exact ⟨v, (T.setVm vm₁).calling g' mk As.toArray, t, U', L, hT, X', hL, e1, e2, hq, st⟩
/-- not caught here, past rows that name other classes: it goes on to the caller -/
theorem vx_outP {p : Program} {l : Launch} {e : Env} {R : Room} {s : State} {m : MethodId} {args : Array Value} {below : List Frame} {meth : Method} {c : Code} {H : Heap} {locs : List Loc} {cells slots : Nat} {free : Addr → Prop} {ls : Array Slot} {rest : List Value} {Qc : Array Value → State → Outcome → State → Prop} {XC : String → State → State → Prop}
    {pc : Nat} {own E : String} {ce : Cell} {q : Addr} {mc ms : Nat} (hown : s.vm.findClass own = some m.cls) (hlocks : meth.locks = false)
    (hpass : ∀ z ∈ c.exceptionTable.toList, covers z pc = false ∨ (z.catchType ≠ 0 ∧ ∃ nm : String, (Cond.classLink own z.catchType nm).before args s = true ∧ va_Nc E nm s)) (hcell : H[q]? = some ce) (hv : ce.vm = .none) (hcl : s.vm.findClass E = some ce.cls)
    (hx : ∀ t : State, t.heap = H → s.vm.Alike t.vm → XC E s t) (hf : ∀ z ∈ locs, free z.base) (hc : cells ≤ mc) (hs : slots ≤ ms) :
    vx_W p l e R s m args below meth c H locs cells slots (vx_MQ below Qc XC args s mc ms free) (F0 m pc ls rest) q := by
  intro T hT X
  have hpl : e.platform.magicAccessors = ({} : Platform).magicAccessors := by rw [X.admits.platform]
  obtain ⟨vm', hW', X', st⟩ := X.outThrough hlocks q (g := F0 m pc ls rest) rfl rfl rfl (cell := ce) (by rw [hT]; exact hcell) (by rw [hv]; rfl)
    (by obtain ⟨k9, h9, -⟩ := Vm.findClass_spec hcl; exact ⟨k9, h9⟩) (fun z hz => by
      rcases hpass z hz with h | ⟨hz0, nm, hl1, hn1⟩
      · exact Or.inl h
      · obtain ⟨c6, hc6, hcl6⟩ := Cond.classLink_spec hown hl1 e.platform hpl
        obtain ⟨a8, b8, h1, h2, h3⟩ := hn1
        cases Option.some.inj (h1.symm.trans hcl)
        cases Option.some.inj (h2.symm.trans hc6)
        exact Or.inr ⟨hz0, _, hcl6, h3⟩)
  obtain ⟨g₀, hfr⟩ := X'.frames_eq
  have hcell9 : ((T.setVm vm').setFrames (.throwing q :: below)).heap[q]? = some ce := by
    show T.heap[q]? = some ce
    rw [hT]; exact hcell
  have hend : Ended ((T.setVm vm').setFrames (.throwing q :: below)) below (.threw q) := State.frames_setFrames _ (State.cur_lt_of_frames hfr)
  refine ⟨(T.setVm vm').setFrames (.throwing q :: below), ?_, .threw q, X'.here.running, hend, Or.inr ⟨q, rfl, E, ce, locs, hx _ hT (X'.ends _).1.alike, hcell9, hv, hcl, (X'.ends _).1, (X'.ends _).2.mono hc hs, hf⟩⟩
  rw [X.pushThrowing_eq]
  exact st
/-- a thing of a world lies in the heap -/
theorem vx_lt {D : va_G} {cl : List vw_C} {ws : va_W} {H1 : Heap} (h : va_P D cl ws H1) {k : Nat} {q : Nat × va_E} (hk : ws[k]? = some q) : q.1 < H1.size := (h k q hk).lt
end VXS
/-! ===== END ===== -/
/-! ===== BEGIN methods with a table of their own: called by a name, returning or throwing ===== -/
section VXH
/-! vx_backW, vx_callVX, vx_callSX, vx_callVW, vx_runVW, vx_runVX, vx_runSX, vx_ofWH follow the same proofs as their sisters above (Free/Laws.lean, Shelf42/LK1.lean); vx_outP calls Shelf42/NT130.lean (outThrough). -/
section
variable {l : Launch} {R : Room} {p : Program} {e : Env} {below : List Frame} {s : State} {sargs : Array Value} {y : MethodName} {len W9 : Nat}
theorem vx_backW {ws : List Cond} {rm : Room} {Pc : Array Value → State → Prop} {Qc : Array Value → State → Outcome → State → Prop} {XC : String → State → State → Prop} {mc ms : Nat} {free : Addr → Prop} {bytes : ByteArray} {maxL : Nat} {ret : Option FieldType} {hh : List (Nat × Nat × Nat × Nat)}
    (hM : vx_Met l y ws rm Pc Qc XC mc ms free) (hblind : FrameBlind Pc) (hrc : rm.cells = mc) (hrs : rm.slots = ms)
    (hframes : rm.frames + 1 ≤ R.frames) (hlocals : W9 + (maxL + 11) + rm.locals ≤ R.locals)
    (hws : ∀ w ∈ ws, ∀ a' U, s.WarmedH U.vm → w.before a' U = true) (hcode : Cond.codeWith y bytes maxL ret hh ∈ ws) (hinit : ∀ a' U, s.WarmedH U.vm → (Cond.initialized y.cls).before a' U = true) :
    vx_Back l R p e below s sargs y len W9 (PreOf R mc ms Pc) (PostOf Qc mc ms free) (vx_Post XC mc ms free) := by
  intro m meth c A g ig mk a X hg hsize hdg hW hn hp
  have h1 : (headSpec ws rm).pre.before a A.U = true := atoms_intro fun w hw => hws w hw _ _ X.warmed
  have h2 : (Cond.codeWith y bytes maxL ret hh).before a A.U = true := hws _ hcode _ _ X.warmed
  have h3 : (Cond.initialized y.cls).before a A.U = true := hinit _ _ X.warmed
  have h4 : A.cells + (headSpec ws rm).room.cells ≤ R.cells := by rw [show (headSpec ws rm).room.cells = mc from hrc]; exact hp.1
  have h5 : A.slots + (headSpec ws rm).room.slots ≤ R.slots := by rw [show (headSpec ws rm).room.slots = ms from hrs]; exact hp.2.1
  have hPc : Pc a (A.U.calling g mk a) := hblind _ _ _ _ hp.2.2
  obtain ⟨U, Ls, c0, s0⟩ := A
  dsimp only [Pt.U, Pt.locs, Pt.cells, Pt.slots] at h1 h2 h3 h4 h5 X hn hPc ⊢
  obtain ⟨m9, methY, cY, hn9, hmY, hcY, -, hlY, -⟩ := Cond.codeWith_spec h2
  cases Option.some.inj (hn9.symm.trans hn)
  obtain ⟨kY, hkY, -⟩ := className_of_methodNamed hn
  have hinitY : kY.init = .initialized := Cond.initialized_spec (findClass_of_methodNamed hn) hkY h3
  have h : At U g.method c below := by rw [hg]; exact X.here
  have hlocals9 : W9 + (maxL + 11) + (headSpec ws rm).room.locals ≤ R.locals := hlocals
  have happ : (headSpec ws rm).appliesLoose y e.platform (U.calling g mk a) = true :=
    Spec.appliesLoose_calling (g := g) h hdg hn hkY hinitY
      (X.room_calling (g := g) (R' := (headSpec ws rm).room) hsize hmY hcY hframes (by rw [hlY]; omega) h4 h5) h1
  obtain ⟨mid, hmid⟩ := h.above
  have hfr : (U.setTop g).frames = (.java g :: mid) ++ below := by rw [State.frames_setTop' g h.top, hmid]; rfl
  obtain ⟨o, s₂, hsteps, -, hend, hq⟩ := Steps.callFree hM p X.admits X.cas X.clock (acts := []) hfr happ hPc trivial
  have hq' : vx_Q Qc XC mc ms free a (U.calling g mk a) o s₂ := hq
  rw [State.frames_setTop' g h.top] at hend
  obtain ⟨g₀, hg0⟩ := Option.isSome_iff_exists.mp h.top
  obtain ⟨r, hr⟩ := State.topJava?_eq_some.mp hg0
  have hr' : (({ U with heap := s₂.heap, slotsUsed := s₂.slotsUsed } : State).setVm s₂.vm).frames = .java g₀ :: r := hr
  rcases hq' with ⟨hqc, L, hfe, hL⟩ | ⟨q, rfl, E, ce, L, hx, hce, hcv, hcl, hW₂, hsm, hL⟩
  · obtain ⟨⟨v, rfl⟩, hW₂, e2, q2, q3, q4, q5, q6⟩ := id hfe
    have e3 : s₂ = ({ (U.calling g mk a).setFrames s₂.frames with heap := s₂.heap, slotsUsed := s₂.slotsUsed } : State).setVm s₂.vm := by
      have : s₂ = ({ s₂ with vm := (U.calling g mk a).vm } : State).setVm s₂.vm := rfl
      rw [e2] at this
      exact this
    obtain ⟨c₂, i₂, len₂, hc₂, hd₂, hf₂⟩ := hend
    have hW' : U.WarmedH s₂.vm := hW₂
    have hcc : c₂ = c := by
      have h1 : s₂.code? g.method = U.code? g.method := by
        rw [State.code?_eq, State.code?_eq, hW'.alike.method?]
      exact Option.some.inj (hc₂.symm.trans (h1.trans h.code))
    subst hcc
    have hlen : len₂ = len := by rw [hdg] at hd₂; cases hd₂; rfl
    subst hlen
    have hs₂ : s₂ = (({ U with heap := s₂.heap, slotsUsed := s₂.slotsUsed } : State).setVm s₂.vm).setTop { g with pc := g.pc + len₂, stack := v.toList ++ g.stack } := by
      refine e3.trans ?_
      rw [hf₂, State.calling_eq h.top, State.setFrames_setFrames, State.setTop_of_frames _ hr', hr]
      rfl
    have hsame : U.sameButNew ({ U with heap := s₂.heap, slotsUsed := s₂.slotsUsed } : State) L mc ms := by
      refine ⟨?_, q2, q3, q4, q5, q6⟩
      obtain ⟨t, ht, -⟩ := State.frames_cons hr
      show ({ U with heap := s₂.heap, slotsUsed := s₂.slotsUsed } : State) = { U.setFrames U.frames with heap := s₂.heap, slotsUsed := s₂.slotsUsed }
      rw [State.setFrames_self ht]
    subst hg
    refine Or.inl ⟨v, ⟨(({ U with heap := s₂.heap, slotsUsed := s₂.slotsUsed } : State).setVm s₂.vm), Ls ++ L, c0 + mc, s0 + ms⟩,
      ⟨X.admits, X.cas, X.clock, X.frames, X.room, X.hears, X.method, X.code, (X.here.setHeapUsed s₂.heap s₂.slotsUsed).setVm hW'.alike, X.tail, State.WarmedH.trans X.warmed hW', X.limits, X.bytes, X.same.trans (hsame.setVm s.vm)⟩,
      ⟨g, mk, s₂, L, rfl, rfl, hqc, rfl, hL, rfl, rfl⟩, ?_⟩
    show Steps p.tables e below _ ((({ U with heap := s₂.heap, slotsUsed := s₂.slotsUsed } : State).setVm s₂.vm).setTop { g with pc := g.pc + len₂, stack := v.toList ++ g.stack })
    rw [← hs₂]
    exact hsteps
  · obtain ⟨e2, q2, q3, q4, q5, q6⟩ := id hsm
    have e3 : s₂ = ({ (U.calling g mk a).setFrames s₂.frames with heap := s₂.heap, slotsUsed := s₂.slotsUsed } : State).setVm s₂.vm := by
      have : s₂ = ({ s₂ with vm := (U.calling g mk a).vm } : State).setVm s₂.vm := rfl
      rw [e2] at this
      exact this
    have hf₂ : s₂.frames = .throwing q :: .java g :: U.frames.tail := hend
    have hW' : U.WarmedH s₂.vm := hW₂
    have hs₂ : s₂ = ((({ U with heap := s₂.heap, slotsUsed := s₂.slotsUsed } : State).setVm s₂.vm).setTop g).pushFrame (.throwing q) := by
      refine e3.trans ?_
      rw [hf₂, State.calling_eq h.top, State.setFrames_setFrames, State.pushFrame, State.frames_setTop _ hr', State.setTop_of_frames _ hr', State.setFrames_setFrames, hr]
      rfl
    have hsame : U.sameButNew ({ U with heap := s₂.heap, slotsUsed := s₂.slotsUsed } : State) L mc ms := by
      refine ⟨?_, q2, q3, q4, q5, q6⟩
      obtain ⟨t, ht, -⟩ := State.frames_cons hr
      show ({ U with heap := s₂.heap, slotsUsed := s₂.slotsUsed } : State) = { U.setFrames U.frames with heap := s₂.heap, slotsUsed := s₂.slotsUsed }
      rw [State.setFrames_self ht]
    subst hg
    refine Or.inr ⟨q, ⟨(({ U with heap := s₂.heap, slotsUsed := s₂.slotsUsed } : State).setVm s₂.vm), Ls ++ L, c0 + mc, s0 + ms⟩,
      ⟨X.admits, X.cas, X.clock, X.frames, X.room, X.hears, X.method, X.code, (X.here.setHeapUsed s₂.heap s₂.slotsUsed).setVm hW'.alike, X.tail, State.WarmedH.trans X.warmed hW', X.limits, X.bytes, X.same.trans (hsame.setVm s.vm)⟩,
      ⟨g, mk, s₂, L, E, ce, rfl, rfl, hx, hce, hcv, hcl, rfl, hL, rfl, rfl⟩, ?_⟩
    show Steps p.tables e below _ (((({ U with heap := s₂.heap, slotsUsed := s₂.slotsUsed } : State).setVm s₂.vm).setTop g).pushFrame (.throwing q))
    rw [← hs₂]
    exact hsteps
end
variable {p : Program} {l : Launch} {e : Env} {R : Room} {s : State} {m : MethodId} {args : Array Value} {below : List Frame} {meth : Method} {c : Code} {T : State} {H : Heap} {locs : List Loc} {cells slots : Nat}
theorem vx_callVX (X : Stand p l e R s m args below meth c T locs cells slots) (hexec : p.tables.exec = Jvm.exec) {own C : String} {index : Nat} {y : MethodName} {bytes : ByteArray} {maxL : Nat} {ret : Option FieldType} {hh : List (Nat × Nat × Nat × Nat)}
    (hown : s.vm.findClass own = some m.cls) (hlink : (Cond.methodLink own index y).before args s = true) (hinst : (Cond.instanceMethod y).before args s = true) (hsel : (Cond.selects C y y).before args s = true)
    (hcode : (Cond.codeWith y bytes maxL ret hh).before args s = true) (hy : y.cls ≠ "java/lang/invoke/MethodHandle" ∧ y.cls ≠ "java/lang/invoke/VarHandle")
    {W9 : Nat} {Pre : Pt → Array Value → Prop} {Post : Pt → Array Value → Option Value → Pt → Prop} {PostX : Pt → Array Value → Addr → Pt → Prop} (hK : vx_Back l R p e below s args y 3 W9 Pre Post PostX)
    {b : Addr} {cellB : Cell} (hcell : T.heap[b]? = some cellB) (hobj : cellB.vm.isStatics = false) (hcls : s.vm.findClass C = some cellB.cls)
    {g : JFrame} (hg : g.method = m) (hsize : g.locals.size = c.maxLocals) {argsL rest : List Value} (hlen : ∀ sig, parseMethodDescriptor y.desc = some sig → argsL.length = sig.parameters.length)
    (hstack : g.stack = argsL.reverse ++ .ref b :: rest) (hW : 2 * g.monitorRoom + (rest.map fun v => v.category).sum ≤ W9) (hdg : decode c.code g.pc = .ok (.invokevirtual index, 3))
    (hpre : ∀ vm₁, s.WarmedH vm₁ → Pre ⟨T.setVm vm₁, locs, cells, slots⟩ (Value.ref b :: argsL).toArray) :
    (∃ (v : Option Value) (vm₁ : Vm) (B : Pt), s.WarmedH vm₁ ∧ Stand p l e R s m args below meth c B.U B.locs B.cells B.slots ∧ Post ⟨T.setVm vm₁, locs, cells, slots⟩ (Value.ref b :: argsL).toArray v B ∧
      ∀ target, Steps p.tables e below (B.U.setTop { g with pc := g.pc + 3, stack := v.toList ++ rest }) target → Steps p.tables e below (T.setTop g) target) ∨
    (∃ (q : Addr) (vm₁ : Vm) (B : Pt), s.WarmedH vm₁ ∧ Stand p l e R s m args below meth c B.U B.locs B.cells B.slots ∧ PostX ⟨T.setVm vm₁, locs, cells, slots⟩ (Value.ref b :: argsL).toArray q B ∧
      Steps p.tables e below (T.setTop g) ((B.U.setTop { g with stack := rest }).pushFrame (.throwing q))) := by
  obtain ⟨mk, methM, hnamed, hmethM, hstM, habM⟩ := Cond.instanceMethod_spec hinst
  obtain ⟨m8, methM', cM, hn8, hmethM', -, -, -, -, -, -, hsigM⟩ := Cond.codeWith_spec hcode
  cases Option.some.inj (hn8.symm.trans hnamed)
  cases hmethM.symm.trans hmethM'
  obtain ⟨c2, r2, m2, q1, q2, q3, q4, kP, hkP, hkPi⟩ := Cond.selects_spec hsel
  cases hcls.symm.trans q1
  cases (State.methodFound?_of_named hnamed hy).symm.trans q2
  cases hnamed.symm.trans q3
  have hselP : selectMethod e.platform s.vm cellB.cls mk = .method mk := by rw [Launch.admits_selectMethod X.admits]; exact q4
  obtain ⟨vm₁, X₁, hstep₁⟩ := X.invokevirtual hexec hown hlink hnamed hmethM hstM hkP hkPi hy (a := b) (cell := cellB) hcell
    (fun z h => by rw [h] at hobj; cases hobj) hselP hmethM habM hkP hkPi (g := g) hg (argsL := argsL) (rest := rest) (hlen _ hsigM) hstack hdg
  rcases hK m meth c ⟨T.setVm vm₁, locs, cells, slots⟩ { g with stack := rest } (.invokevirtual index) mk (Value.ref b :: argsL).toArray X₁ hg hsize hdg hW (X₁.named hnamed) (hpre vm₁ X₁.warmed) with ⟨v, B, X', hpost, hsteps⟩ | ⟨q, B, X', hpost, hsteps⟩
  · exact Or.inl ⟨v, vm₁, B, X₁.warmed, X', hpost, fun target h => hstep₁ _ fun acts => by rw [doInvoke_state]; exact hsteps.trans h⟩
  · exact Or.inr ⟨q, vm₁, B, X₁.warmed, X', hpost, hstep₁ _ fun acts => by rw [doInvoke_state]; exact hsteps⟩
theorem vx_callSX (X : Stand p l e R s m args below meth c T locs cells slots) (hexec : p.tables.exec = Jvm.exec) {own : String} {index : Nat} {y : MethodName} {bytes : ByteArray} {maxL : Nat} {ret : Option FieldType} {hh : List (Nat × Nat × Nat × Nat)}
    (hown : s.vm.findClass own = some m.cls) (hlink : (Cond.methodLink own index y).before args s = true) (hstat : (Cond.static y).before args s = true) (hinit : (Cond.initialized y.cls).before args s = true)
    (hcode : (Cond.codeWith y bytes maxL ret hh).before args s = true) (hy : y.cls ≠ "java/lang/invoke/MethodHandle" ∧ y.cls ≠ "java/lang/invoke/VarHandle")
    {W9 : Nat} {Pre : Pt → Array Value → Prop} {Post : Pt → Array Value → Option Value → Pt → Prop} {PostX : Pt → Array Value → Addr → Pt → Prop} (hK : vx_Back l R p e below s args y 3 W9 Pre Post PostX)
    {g : JFrame} (hg : g.method = m) (hsize : g.locals.size = c.maxLocals) {argsL rest : List Value} (hlen : ∀ sig, parseMethodDescriptor y.desc = some sig → argsL.length = sig.parameters.length)
    (hstack : g.stack = argsL.reverse ++ rest) (hW : 2 * g.monitorRoom + (rest.map fun v => v.category).sum ≤ W9) (hdg : decode c.code g.pc = .ok (.invokestatic index, 3))
    (hpre : ∀ vm₁, s.WarmedH vm₁ → Pre ⟨T.setVm vm₁, locs, cells, slots⟩ argsL.toArray) :
    (∃ (v : Option Value) (vm₁ : Vm) (B : Pt), s.WarmedH vm₁ ∧ Stand p l e R s m args below meth c B.U B.locs B.cells B.slots ∧ Post ⟨T.setVm vm₁, locs, cells, slots⟩ argsL.toArray v B ∧
      ∀ target, Steps p.tables e below (B.U.setTop { g with pc := g.pc + 3, stack := v.toList ++ rest }) target → Steps p.tables e below (T.setTop g) target) ∨
    (∃ (q : Addr) (vm₁ : Vm) (B : Pt), s.WarmedH vm₁ ∧ Stand p l e R s m args below meth c B.U B.locs B.cells B.slots ∧ PostX ⟨T.setVm vm₁, locs, cells, slots⟩ argsL.toArray q B ∧
      Steps p.tables e below (T.setTop g) ((B.U.setTop { g with stack := rest }).pushFrame (.throwing q))) := by
  obtain ⟨mk, methM, cM, hnamed, hmethM, -, -, -, -, -, -, hsigM⟩ := Cond.codeWith_spec hcode
  have hstatic : methM.isStatic = true := Cond.static_spec hnamed hmethM hstat
  obtain ⟨kP, hkP, -⟩ := className_of_methodNamed hnamed
  have hinitP : kP.init = .initialized := Cond.initialized_spec (findClass_of_methodNamed hnamed) hkP hinit
  obtain ⟨vm₁, X₁, hstep₁⟩ := X.invokestatic hexec hown hlink hnamed hmethM hstatic hkP hinitP hy (g := g) hg (argsL := argsL) (rest := rest) (hlen _ hsigM) hstack hdg
  rcases hK m meth c ⟨T.setVm vm₁, locs, cells, slots⟩ { g with stack := rest } (.invokestatic index) mk argsL.toArray X₁ hg hsize hdg hW (X₁.named hnamed) (hpre vm₁ X₁.warmed) with ⟨v, B, X', hpost, hsteps⟩ | ⟨q, B, X', hpost, hsteps⟩
  · exact Or.inl ⟨v, vm₁, B, X₁.warmed, X', hpost, fun target h => hstep₁ _ fun acts => by rw [doInvoke_state]; exact hsteps.trans h⟩
  · exact Or.inr ⟨q, vm₁, B, X₁.warmed, X', hpost, hstep₁ _ fun acts => by rw [doInvoke_state]; exact hsteps⟩
theorem vx_callVW (X : Stand p l e R s m args below meth c T locs cells slots) (hexec : p.tables.exec = Jvm.exec) {own C : String} {index : Nat} {y : MethodName} {bytes : ByteArray} {maxL : Nat} {ret : Option FieldType} {hh : List (Nat × Nat × Nat × Nat)}
    (hown : s.vm.findClass own = some m.cls) (hlink : (Cond.methodLink own index y).before args s = true) (hinst : (Cond.instanceMethod y).before args s = true) (hsel : (Cond.selects C y y).before args s = true)
    (hcode : (Cond.codeWith y bytes maxL ret hh).before args s = true) (hy : y.cls ≠ "java/lang/invoke/MethodHandle" ∧ y.cls ≠ "java/lang/invoke/VarHandle")
    {W9 : Nat} {Pre : Pt → Array Value → Prop} {Post : Pt → Array Value → Option Value → Pt → Prop} (hK : Back l R p e below s args y 3 W9 Pre Post)
    {b : Addr} {cellB : Cell} (hcell : T.heap[b]? = some cellB) (hobj : cellB.vm.isStatics = false) (hcls : s.vm.findClass C = some cellB.cls)
    {g : JFrame} (hg : g.method = m) (hsize : g.locals.size = c.maxLocals) {argsL rest : List Value} (hlen : ∀ sig, parseMethodDescriptor y.desc = some sig → argsL.length = sig.parameters.length)
    (hstack : g.stack = argsL.reverse ++ .ref b :: rest) (hW : 2 * g.monitorRoom + (rest.map fun v => v.category).sum ≤ W9) (hdg : decode c.code g.pc = .ok (.invokevirtual index, 3))
    (hpre : ∀ vm₁, s.WarmedH vm₁ → Pre ⟨T.setVm vm₁, locs, cells, slots⟩ (Value.ref b :: argsL).toArray) :
    ∃ (v : Option Value) (vm₁ : Vm) (B : Pt), s.WarmedH vm₁ ∧ Stand p l e R s m args below meth c B.U B.locs B.cells B.slots ∧ Post ⟨T.setVm vm₁, locs, cells, slots⟩ (Value.ref b :: argsL).toArray v B ∧
      ∀ target, Steps p.tables e below (B.U.setTop { g with pc := g.pc + 3, stack := v.toList ++ rest }) target → Steps p.tables e below (T.setTop g) target := by
  obtain ⟨mk, methM, hnamed, hmethM, hstM, habM⟩ := Cond.instanceMethod_spec hinst
  obtain ⟨m8, methM', cM, hn8, hmethM', -, -, -, -, -, -, hsigM⟩ := Cond.codeWith_spec hcode
  cases Option.some.inj (hn8.symm.trans hnamed)
  cases hmethM.symm.trans hmethM'
  obtain ⟨c2, r2, m2, q1, q2, q3, q4, kP, hkP, hkPi⟩ := Cond.selects_spec hsel
  cases hcls.symm.trans q1
  cases (State.methodFound?_of_named hnamed hy).symm.trans q2
  cases hnamed.symm.trans q3
  have hselP : selectMethod e.platform s.vm cellB.cls mk = .method mk := by rw [Launch.admits_selectMethod X.admits]; exact q4
  obtain ⟨vm₁, X₁, hstep₁⟩ := X.invokevirtual hexec hown hlink hnamed hmethM hstM hkP hkPi hy (a := b) (cell := cellB) hcell
    (fun z h => by rw [h] at hobj; cases hobj) hselP hmethM habM hkP hkPi (g := g) hg (argsL := argsL) (rest := rest) (hlen _ hsigM) hstack hdg
  obtain ⟨v, B, X', hpost, hsteps⟩ := hK m meth c ⟨T.setVm vm₁, locs, cells, slots⟩ { g with stack := rest } (.invokevirtual index) mk (Value.ref b :: argsL).toArray X₁ hg hsize hdg hW (X₁.named hnamed) (hpre vm₁ X₁.warmed)
  exact ⟨v, vm₁, B, X₁.warmed, X', hpost, fun target h => hstep₁ _ fun acts => by rw [doInvoke_state]; exact hsteps.trans h⟩
abbrev vx_CVW (R : Room) (s : State) (args : Array Value) (own C : String) (index : Nat) (y : MethodName) (bytes : ByteArray) (maxL : Nat) (ret : Option FieldType) (hh : List (Nat × Nat × Nat × Nat)) (ws : List Cond) (rm : Room) (mc ms n : Nat) : Prop :=
  (rm.cells = mc ∧ rm.slots = ms ∧ rm.frames + 1 ≤ R.frames ∧ 8 + (maxL + 11) + rm.locals ≤ R.locals ∧ (∀ w ∈ ws, ∀ (a' : Array Value) (U : State), s.WarmedH U.vm → w.before a' U = true) ∧ Cond.codeWith y bytes maxL ret hh ∈ ws) ∧
  (Cond.codeWith y bytes maxL ret hh).before args s = true ∧ (Cond.initialized y.cls).before args s = true ∧ (y.cls ≠ "java/lang/invoke/MethodHandle" ∧ y.cls ≠ "java/lang/invoke/VarHandle") ∧
  (∀ sig, parseMethodDescriptor y.desc = some sig → n = sig.parameters.length) ∧ (Cond.methodLink own index y).before args s = true ∧ (Cond.instanceMethod y).before args s = true ∧ (Cond.selects C y y).before args s = true
theorem vx_cwVW {own C : String} {index maxL mc ms : Nat} {y : MethodName} {bytes : ByteArray} {ret : Option FieldType} {hh : List (Nat × Nat × Nat × Nat)} {Ts ws ws' : List Cond} {rm : Room} (n : Nat) (ht : ∀ w ∈ Ts, w.before args s = true) (hT : GoodIn Ts (wsV own index C y ws)) (hw : ws = Cond.codeWith y bytes maxL ret hh :: ws') (hrc : rm.cells = mc) (hrs : rm.slots = ms)
    (hd : y.cls = C ∧ y.cls ≠ "java/lang/invoke/MethodHandle" ∧ y.cls ≠ "java/lang/invoke/VarHandle" ∧ (parseMethodDescriptor y.desc).map (fun d => d.parameters.length) = some n) (hR : rm.frames + 1 ≤ R.frames ∧ 8 + (maxL + 11) + rm.locals ≤ R.locals) :
    vx_CVW R s args own C index y bytes maxL ret hh ws rm mc ms n := by
  obtain ⟨hC, hd⟩ := hd
  subst hC
  have ok : ∀ w ∈ wsV own index y.cls y ws, w.before args s = true := fun w h => ht w (hT w h).1
  have hG : GoodIn Ts ws := fun w h => hT w (by unfold wsV; exact List.mem_append_right _ h)
  have hc : Cond.codeWith y bytes maxL ret hh ∈ ws := by rw [hw]; exact List.mem_cons_self
  refine ⟨⟨hrc, hrs, hR.1, hR.2, pay_in ht hG, hc⟩, ht _ (hG _ hc).1, ok _ (by simp [wsV]), ⟨hd.1, hd.2.1⟩, fun sig h => ?_, ok _ (by simp [wsV]), ok _ (by simp [wsV]), ok _ (by simp [wsV])⟩
  have h2 := hd.2.2
  rw [h] at h2
  exact (Option.some.inj h2).symm
theorem vx_runVW {y : MethodName} {bytes cc : ByteArray} {maxL nL mc ms n index : Nat} {ret : Option FieldType} {hh : List (Nat × Nat × Nat × Nat)} {ws : List Cond} {rm : Room} {Pc : Array Value → State → Prop} {Qc : Array Value → State → Outcome → State → Prop} {free : Addr → Prop} {Ts : List Cond} {own C : String} {b : Addr} {As rest : List Value} {g : JFrame}
    (S : CallFix p m c cc nL s args Ts own) (hM : Met l y ws rm Pc Qc mc ms free) (cw : vx_CVW R s args own C index y bytes maxL ret hh ws rm mc ms n) (hp : PreV s H C b Pc As)
    (hg : g.method = m) (hn : As.length = n) (hsize : g.locals.size = nL) (hstack : g.stack = As.reverse ++ .ref b :: rest) (hW : 2 * g.monitorRoom + (rest.map fun v => v.category).sum ≤ 8) (hdg : decode cc g.pc = .ok (.invokevirtual index, 3)) (hf : cells + mc ≤ R.cells ∧ slots + ms ≤ R.slots) :
    va_Run p l e R s m args below meth c H locs cells slots mc ms g rest (Qc (Value.ref b :: As).toArray) free := by
  obtain ⟨⟨hrc, hrs, hfr, hlo, hws, hcw⟩, hcode, hini, hy, hlen, hl, hin, hse⟩ := cw
  have hK : Back l R p e below s args y 3 8 (PreOf R mc ms Pc) (PostOf Qc mc ms free) := va_backW (hh := hh) (bytes := bytes) (maxL := maxL) (ret := ret) hM hp.1 hrc hrs hfr hlo hws hcw (fun a' U hW => word_at hW (Or.inl (by first | rfl | simp [Cond.onTables, Cond.keeps, Cond.steady])) hini)
  obtain ⟨hx, hb, hml, ho, -⟩ := S
  obtain ⟨-, ⟨cellB, hcB, hoB, hclB⟩, hPc⟩ := hp
  intro T hT X
  obtain ⟨v, vm₁, ⟨U', l2, c2, s2⟩, hW₁, X', ⟨g', mk, t, L, e1, e2, hq, h1, hL, h2, h3⟩, st⟩ := vx_callVW X hx (C := C) (hh := hh) (bytes := bytes) (maxL := maxL) (ret := ret) ho hl hin hse hcode hy hK (by rw [hT]; exact hcB) hoB hclB hg (hsize.trans hml.symm) (argsL := As) (rest := rest) (fun sig h => hn.trans (hlen sig h)) hstack hW (by rw [hb]; exact hdg)
    (fun vm₁ hW₁ => ⟨hf.1, hf.2, hPc (T.setVm vm₁) hT hW₁⟩)
  dsimp only [Pt.U, Pt.locs, Pt.cells, Pt.slots] at X' e1 e2 h1 h2 h3 st
  subst h1; subst h2; subst h3
  exact ⟨v, (T.setVm vm₁).calling g' mk (Value.ref b :: As).toArray, t, U', L, hT, X', hL, e1, e2, hq, st⟩
section
variable {y : MethodName} {bytes cc : ByteArray} {maxL nL mc ms n index : Nat} {ret : Option FieldType} {ws : List Cond} {rm : Room} {Pc : Array Value → State → Prop} {Qc : Array Value → State → Outcome → State → Prop} {XC : String → State → State → Prop} {free : Addr → Prop} {Ts : List Cond} {own C : String} {b : Addr} {As rest : List Value} {g : JFrame}
theorem vx_runVX {hh : List (Nat × Nat × Nat × Nat)} (S : CallFix p m c cc nL s args Ts own) (hM : vx_Met l y ws rm Pc Qc XC mc ms free) (cw : vx_CVW R s args own C index y bytes maxL ret hh ws rm mc ms n) (hp : PreV s H C b Pc As)
    (hg : g.method = m) (hn : As.length = n) (hsize : g.locals.size = nL) (hstack : g.stack = As.reverse ++ .ref b :: rest) (hW : 2 * g.monitorRoom + (rest.map fun v => v.category).sum ≤ 8) (hdg : decode cc g.pc = .ok (.invokevirtual index, 3)) (hf : cells + mc ≤ R.cells ∧ slots + ms ≤ R.slots) :
    vx_Run p l e R s m args below meth c H locs cells slots mc ms g rest (Qc (Value.ref b :: As).toArray) XC free := by
  obtain ⟨⟨hrc, hrs, hfr, hlo, hws, hcw⟩, hcode, hini, hy, hlen, hl, hin, hse⟩ := cw
  have hK : vx_Back l R p e below s args y 3 8 (PreOf R mc ms Pc) (PostOf Qc mc ms free) (vx_Post XC mc ms free) := vx_backW (hh := hh) (bytes := bytes) (maxL := maxL) (ret := ret) hM hp.1 hrc hrs hfr hlo hws hcw (fun a' U hW => word_at hW (Or.inl (by first | rfl | simp [Cond.onTables, Cond.keeps, Cond.steady])) hini)
  obtain ⟨hx, hb, hml, ho, -⟩ := S
  obtain ⟨-, ⟨cellB, hcB, hoB, hclB⟩, hPc⟩ := hp
  intro T hT X
  rcases vx_callVX X hx (C := C) (hh := hh) (bytes := bytes) (maxL := maxL) (ret := ret) ho hl hin hse hcode hy hK (by rw [hT]; exact hcB) hoB hclB hg (hsize.trans hml.symm) (argsL := As) (rest := rest) (fun sig h => hn.trans (hlen sig h)) hstack hW (by rw [hb]; exact hdg)
    (fun vm₁ hW₁ => ⟨hf.1, hf.2, hPc (T.setVm vm₁) hT hW₁⟩) with ⟨v, vm₁, ⟨U', l2, c2, s2⟩, hW₁, X', ⟨g', mk, t, L, e1, e2, hq, h1, hL, h2, h3⟩, st⟩ | ⟨q, vm₁, ⟨U', l2, c2, s2⟩, hW₁, X', ⟨g', mk, t, L, E, ce, e1, e2, hq, hce, hcv, hcl, h1, hL, h2, h3⟩, st⟩
  · dsimp only [Pt.U, Pt.locs, Pt.cells, Pt.slots] at X' e1 e2 h1 h2 h3 st
    subst h1; subst h2; subst h3
    exact Or.inl ⟨v, (T.setVm vm₁).calling g' mk (Value.ref b :: As).toArray, t, U', L, hT, X', hL, e1, e2, hq, st⟩
  · dsimp only [Pt.U, Pt.locs, Pt.cells, Pt.slots] at X' e1 e2 h1 h2 h3 st hcl
    subst h1; subst h2; subst h3
    exact Or.inr ⟨q, (T.setVm vm₁).calling g' mk (Value.ref b :: As).toArray, t, U', L, E, ce, hT, X', hL, e1, e2, hq, hce, hcv, vx_cls hW₁ hcl, st⟩
theorem vx_runSX {hh : List (Nat × Nat × Nat × Nat)} (S : CallFix p m c cc nL s args Ts own) (hM : vx_Met l y ws rm Pc Qc XC mc ms free) (cw : vx_CSW R s args own index y bytes maxL ret hh ws rm mc ms n) (hp : PreS s H Pc As)
    (hg : g.method = m) (hn : As.length = n) (hsize : g.locals.size = nL) (hstack : g.stack = As.reverse ++ rest) (hW : 2 * g.monitorRoom + (rest.map fun v => v.category).sum ≤ 8) (hdg : decode cc g.pc = .ok (.invokestatic index, 3)) (hf : cells + mc ≤ R.cells ∧ slots + ms ≤ R.slots) :
    vx_Run p l e R s m args below meth c H locs cells slots mc ms g rest (Qc As.toArray) XC free := by
  obtain ⟨⟨hrc, hrs, hfr, hlo, hws, hcw⟩, hcode, hini, hy, hlen, hl, hstt⟩ := cw
  have hK : vx_Back l R p e below s args y 3 8 (PreOf R mc ms Pc) (PostOf Qc mc ms free) (vx_Post XC mc ms free) := vx_backW (hh := hh) (bytes := bytes) (maxL := maxL) (ret := ret) hM hp.1 hrc hrs hfr hlo hws hcw (fun a' U hW => word_at hW (Or.inl (by first | rfl | simp [Cond.onTables, Cond.keeps, Cond.steady])) hini)
  obtain ⟨hx, hb, hml, ho, -⟩ := S
  intro T hT X
  rcases vx_callSX X hx (hh := hh) (bytes := bytes) (maxL := maxL) (ret := ret) ho hl hstt hini hcode hy hK hg (hsize.trans hml.symm) (argsL := As) (rest := rest) (fun sig h => hn.trans (hlen sig h)) hstack hW (by rw [hb]; exact hdg)
    (fun vm₁ hW₁ => ⟨hf.1, hf.2, hp.2 (T.setVm vm₁) hT hW₁⟩) with ⟨v, vm₁, ⟨U', l2, c2, s2⟩, hW₁, X', ⟨g', mk, t, L, e1, e2, hq, h1, hL, h2, h3⟩, st⟩ | ⟨q, vm₁, ⟨U', l2, c2, s2⟩, hW₁, X', ⟨g', mk, t, L, E, ce, e1, e2, hq, hce, hcv, hcl, h1, hL, h2, h3⟩, st⟩
  · dsimp only [Pt.U, Pt.locs, Pt.cells, Pt.slots] at X' e1 e2 h1 h2 h3 st
    subst h1; subst h2; subst h3
    exact Or.inl ⟨v, (T.setVm vm₁).calling g' mk As.toArray, t, U', L, hT, X', hL, e1, e2, hq, st⟩
  · dsimp only [Pt.U, Pt.locs, Pt.cells, Pt.slots] at X' e1 e2 h1 h2 h3 st hcl
    subst h1; subst h2; subst h3
    exact Or.inr ⟨q, (T.setVm vm₁).calling g' mk As.toArray, t, U', L, E, ce, hT, X', hL, e1, e2, hq, hce, hcv, vx_cls hW₁ hcl, st⟩
end
end VXH
theorem vx_ofWH {l : Launch} {y : MethodName} {ws ws' : List Cond} {rm : Room} {Pc : Array Value → State → Prop} {Qc : Array Value → State → Outcome → State → Prop} {XC : String → State → State → Prop} {mc ms : Nat} {free : Addr → Prop} {cc : ByteArray} {maxL : Nat} {ret : Option FieldType} {hh : List (Nat × Nat × Nat × Nat)}
    (hy : plainName y.cls = true) (hw : ws = Cond.codeWith y cc maxL ret hh :: ws')
    (body : ∀ p e s m args below meth c s₁, BodyLoose p l y (headSpec ws rm) cc maxL ret e s m args below meth c s₁ → c.maxLocals = maxL → Pc args s →
      W p l e (headSpec ws rm).room s m args below meth c s.heap [] 0 0 (vx_MQ below Qc XC args s mc ms free) (entryFrame m args maxL)) : vx_Met l y ws rm Pc Qc XC mc ms free := by
  refine MetFree.of_bodyS (code := cc) (maxLocals := maxL) (ret := ret) hy ?_ ?_
  · intro args s m h hn
    obtain ⟨m9, meth, c, hn9, h1, h2, h3, h4, -, h5, h6, -⟩ := Cond.codeWith_spec (atoms_spec (ws := ws) h _ (by rw [hw]; exact List.mem_cons_self))
    cases hn.symm.trans hn9
    exact ⟨meth, c, h1, h2, h3, h4, h5, h6⟩
  · intro p e s m args below meth c s₁ B hml hP _
    have hh0 : s₁.heap = s.heap := by rw [B.state]; rfl
    obtain ⟨t, a1, o, b1, b2, b3⟩ := body p e s m args below meth c s₁ B hml hP s₁ hh0 (Stand.of_body B)
    exact ⟨t, o, a1, b1, b2, b3⟩
/-! ===== END ===== -/

/-! ===== BEGIN printed: names, fields, word lists, decode rows ===== -/
def RX0 : String := "UtilityWorks$Books"
def TX0 : u_T := fun k => match k with
  | 0 => ("UtilityWorks$Books", "tariffs", "[[I", true)
  | 1 => ("UtilityWorks$Books", "journal", "[J", true)
  | 2 => ("UtilityWorks$Books", "wages", "J", false)
  | 3 => ("UtilityWorks$Books", "orders", "J", false)
  | 4 => ("UtilityWorks$Books", "bills", "[[J", true)
  | 5 => ("UtilityWorks$Books", "billCount", "[I", true)
  | 6 => ("UtilityWorks$Books", "countedThen", "[I", true)
  | 7 => ("UtilityWorks$Books", "dryThen", "[I", true)
  | 8 => ("UtilityWorks$Books", "credit", "[J", true)
  | 9 => ("UtilityWorks$Books", "poor", "[Z", true)
  | _ => ("UtilityWorks$Books", "plans", "[[J", true)
def tyX0 : Nat → FieldType := fun k => match k with
  | 0 => .array (.array .int)
  | 1 => .array .long
  | 2 => .long
  | 3 => .long
  | 4 => .array (.array .long)
  | 5 => .array .int
  | 6 => .array .int
  | 7 => .array .int
  | 8 => .array .long
  | 9 => .array .boolean
  | _ => .array (.array .long)
abbrev wsX00 : List Cond := u_ws RX0 TX0 11
theorem nmX0 : ∀ a, a < 11 → ∀ b, b < 11 → a ≠ b → (TX0 a).2.1 ≠ (TX0 b).2.1 := by decide +kernel
theorem tyX0_ok : ∀ k, k < 11 → parseFieldDescriptor (TX0 k).2.2.1 = some (tyX0 k) := by decide +kernel
abbrev cX0_init : ByteArray := prog_2_method_1_code
def yX0_init : MethodName := ⟨RX0, "<init>", "()V"⟩
abbrev cX0_setTariff : ByteArray := prog_2_method_2_code
def yX0_setTariff : MethodName := ⟨RX0, "setTariff", "(IIIII)V"⟩
abbrev cX0_copyFrom : ByteArray := prog_2_method_3_code
def yX0_copyFrom : MethodName := ⟨RX0, "copyFrom", "(LUtilityWorks$Books;)V"⟩
abbrev cX0_spend : ByteArray := prog_2_method_4_code
def yX0_spend : MethodName := ⟨RX0, "spend", "(I)V"⟩
abbrev cX0_billOf : ByteArray := prog_2_method_5_code
def yX0_billOf : MethodName := ⟨RX0, "billOf", "(II)[J"⟩
abbrev cX0_owedBy : ByteArray := prog_2_method_6_code
def yX0_owedBy : MethodName := ⟨RX0, "owedBy", "(I)J"⟩
abbrev cX0_owedByAll : ByteArray := prog_2_method_7_code
def yX0_owedByAll : MethodName := ⟨RX0, "owedByAll", "()J"⟩
abbrev cX0_payIn : ByteArray := prog_2_method_8_code
def yX0_payIn : MethodName := ⟨RX0, "payIn", "(II)V"⟩
abbrev cX0_useCredit : ByteArray := prog_2_method_9_code
def yX0_useCredit : MethodName := ⟨RX0, "useCredit", "(I)V"⟩
abbrev cX0_hasPlan : ByteArray := prog_2_method_10_code
def yX0_hasPlan : MethodName := ⟨RX0, "hasPlan", "(I)Z"⟩
abbrev cX0_makePlan : ByteArray := prog_2_method_11_code
def yX0_makePlan : MethodName := ⟨RX0, "makePlan", "(III)V"⟩
abbrev cX0_endPlan : ByteArray := prog_2_method_12_code
def yX0_endPlan : MethodName := ⟨RX0, "endPlan", "(I)V"⟩
abbrev cX0_dueBy : ByteArray := prog_2_method_13_code
def yX0_dueBy : MethodName := ⟨RX0, "dueBy", "(IJ)J"⟩
abbrev cX0_nextDue : ByteArray := prog_2_method_14_code
def yX0_nextDue : MethodName := ⟨RX0, "nextDue", "(II)J"⟩
abbrev cX0_lookAtPlan : ByteArray := prog_2_method_15_code
def yX0_lookAtPlan : MethodName := ⟨RX0, "lookAtPlan", "(II)V"⟩
abbrev cX0_addInterest : ByteArray := prog_2_method_16_code
def yX0_addInterest : MethodName := ⟨RX0, "addInterest", "(I)V"⟩
abbrev cX0_isEstimated : ByteArray := prog_2_method_17_code
def yX0_isEstimated : MethodName := ⟨RX0, "isEstimated", "(LUtilityWorks$Town;II)Z"⟩
abbrev cX0_itemNow : ByteArray := prog_2_method_18_code
def yX0_itemNow : MethodName := ⟨RX0, "itemNow", "(LUtilityWorks$Town;II)J"⟩
abbrev cX0_refundNow : ByteArray := prog_2_method_19_code
def yX0_refundNow : MethodName := ⟨RX0, "refundNow", "(LUtilityWorks$Town;I)J"⟩
abbrev cX0_sumNow : ByteArray := prog_2_method_20_code
def yX0_sumNow : MethodName := ⟨RX0, "sumNow", "(LUtilityWorks$Town;I)J"⟩
abbrev cX0_makeBill : ByteArray := prog_2_method_21_code
def yX0_makeBill : MethodName := ⟨RX0, "makeBill", "(LUtilityWorks$Town;I)V"⟩
abbrev cX0_settle : ByteArray := prog_2_method_22_code
def yX0_settle : MethodName := ⟨RX0, "settle", "(I[J)V"⟩
abbrev cX0_noticeOn : ByteArray := prog_2_method_23_code
def yX0_noticeOn : MethodName := ⟨RX0, "noticeOn", "(II)I"⟩
abbrev cX0_tellJobs : ByteArray := prog_2_method_24_code
def yX0_tellJobs : MethodName := ⟨RX0, "tellJobs", "(LUtilityWorks$Town;I)V"⟩
abbrev cX0_goBy : ByteArray := prog_2_method_25_code
def yX0_goBy : MethodName := ⟨RX0, "goBy", "(LUtilityWorks$Town;)V"⟩
abbrev cX0_isWell : ByteArray := prog_2_method_26_code
def yX0_isWell : MethodName := ⟨RX0, "isWell", "()Z"⟩
def RX1 : String := "UtilityWorks$Crews"
def TX1 : u_T := fun k => match k with
  | 0 => ("UtilityWorks$Crews", "count", "I", false)
  | 1 => ("UtilityWorks$Crews", "rows", "[[I", true)
  | 2 => ("UtilityWorks$Crews", "jobCount", "I", false)
  | _ => ("UtilityWorks$Crews", "jobs", "[[I", true)
def tyX1 : Nat → FieldType := fun k => match k with
  | 0 => .int
  | 1 => .array (.array .int)
  | 2 => .int
  | _ => .array (.array .int)
abbrev wsX10 : List Cond := u_ws RX1 TX1 4
theorem nmX1 : ∀ a, a < 4 → ∀ b, b < 4 → a ≠ b → (TX1 a).2.1 ≠ (TX1 b).2.1 := by decide +kernel
theorem tyX1_ok : ∀ k, k < 4 → parseFieldDescriptor (TX1 k).2.2.1 = some (tyX1 k) := by decide +kernel
abbrev cX1_init : ByteArray := prog_3_method_1_code
def yX1_init : MethodName := ⟨RX1, "<init>", "()V"⟩
abbrev cX1_copyFrom : ByteArray := prog_3_method_2_code
def yX1_copyFrom : MethodName := ⟨RX1, "copyFrom", "(LUtilityWorks$Crews;)V"⟩
abbrev cX1_hireCrew : ByteArray := prog_3_method_3_code
def yX1_hireCrew : MethodName := ⟨RX1, "hireCrew", "(III)I"⟩
abbrev cX1_isOver : ByteArray := prog_3_method_4_code
def yX1_isOver : MethodName := ⟨RX1, "isOver", "(I)Z"⟩
abbrev cX1_notOver : ByteArray := prog_3_method_5_code
def yX1_notOver : MethodName := ⟨RX1, "notOver", "()I"⟩
abbrev cX1_isTold : ByteArray := prog_3_method_6_code
def yX1_isTold : MethodName := ⟨RX1, "isTold", "(II)Z"⟩
abbrev cX1_tellJob : ByteArray := prog_3_method_7_code
def yX1_tellJob : MethodName := ⟨RX1, "tellJob", "(IIII)I"⟩
abbrev cX1_putBack : ByteArray := prog_3_method_8_code
def yX1_putBack : MethodName := ⟨RX1, "putBack", "(I)V"⟩
abbrev cX1_skillFor : ByteArray := prog_3_method_9_code
def yX1_skillFor : MethodName := ⟨RX1, "skillFor", "([I)I"⟩
abbrev cX1_spotOf : ByteArray := prog_3_method_10_code
def yX1_spotOf : MethodName := ⟨RX1, "spotOf", "(LUtilityWorks$Town;[I)I"⟩
abbrev cX1_bestJob : ByteArray := prog_3_method_11_code
def yX1_bestJob : MethodName := ⟨RX1, "bestJob", "(LUtilityWorks$Town;I)I"⟩
abbrev cX1_goBy : ByteArray := prog_3_method_12_code
def yX1_goBy : MethodName := ⟨RX1, "goBy", "(LUtilityWorks$Town;)V"⟩
abbrev cX1_takeJob : ByteArray := prog_3_method_13_code
def yX1_takeJob : MethodName := ⟨RX1, "takeJob", "(II)V"⟩
abbrev cX1_work : ByteArray := prog_3_method_14_code
def yX1_work : MethodName := ⟨RX1, "work", "(LUtilityWorks$Town;I)V"⟩
abbrev cX1_doSpell : ByteArray := prog_3_method_15_code
def yX1_doSpell : MethodName := ⟨RX1, "doSpell", "(LUtilityWorks$Town;I)V"⟩
abbrev cX1_hasNothingToDo : ByteArray := prog_3_method_16_code
def yX1_hasNothingToDo : MethodName := ⟨RX1, "hasNothingToDo", "(LUtilityWorks$Town;[I)Z"⟩
abbrev cX1_partsFor : ByteArray := prog_3_method_17_code
def yX1_partsFor : MethodName := ⟨RX1, "partsFor", "([I)I"⟩
abbrev cX1_lacksSomething : ByteArray := prog_3_method_18_code
def yX1_lacksSomething : MethodName := ⟨RX1, "lacksSomething", "(LUtilityWorks$Town;[II)Z"⟩
abbrev cX1_finish : ByteArray := prog_3_method_19_code
def yX1_finish : MethodName := ⟨RX1, "finish", "(LUtilityWorks$Town;[I)V"⟩
abbrev cX1_isWell : ByteArray := prog_3_method_20_code
def yX1_isWell : MethodName := ⟨RX1, "isWell", "()Z"⟩
def RX2 : String := "UtilityWorks$Customers"
def TX2 : u_T := fun k => match k with
  | 0 => ("UtilityWorks$Customers", "count", "I", false)
  | 1 => ("UtilityWorks$Customers", "rows", "[[I", true)
  | 2 => ("UtilityWorks$Customers", "byRank", "[I", true)
  | _ => ("UtilityWorks$Customers", "meters", "[[I", true)
def tyX2 : Nat → FieldType := fun k => match k with
  | 0 => .int
  | 1 => .array (.array .int)
  | 2 => .array .int
  | _ => .array (.array .int)
abbrev wsX20 : List Cond := u_ws RX2 TX2 4
theorem nmX2 : ∀ a, a < 4 → ∀ b, b < 4 → a ≠ b → (TX2 a).2.1 ≠ (TX2 b).2.1 := by decide +kernel
theorem tyX2_ok : ∀ k, k < 4 → parseFieldDescriptor (TX2 k).2.2.1 = some (tyX2 k) := by decide +kernel
abbrev cX2_init : ByteArray := prog_4_method_1_code
def yX2_init : MethodName := ⟨RX2, "<init>", "()V"⟩
abbrev cX2_copyFrom : ByteArray := prog_4_method_2_code
def yX2_copyFrom : MethodName := ⟨RX2, "copyFrom", "(LUtilityWorks$Customers;)V"⟩
abbrev cX2_tell : ByteArray := prog_4_method_3_code
def yX2_tell : MethodName := ⟨RX2, "tell", "(III)I"⟩
abbrev cX2_meterOf : ByteArray := prog_4_method_4_code
def yX2_meterOf : MethodName := ⟨RX2, "meterOf", "(II)[I"⟩
abbrev cX2_isConnected : ByteArray := prog_4_method_5_code
def yX2_isConnected : MethodName := ⟨RX2, "isConnected", "(II)Z"⟩
abbrev cX2_hook : ByteArray := prog_4_method_6_code
def yX2_hook : MethodName := ⟨RX2, "hook", "(IIZ)Z"⟩
abbrev cX2_cutOff : ByteArray := prog_4_method_7_code
def yX2_cutOff : MethodName := ⟨RX2, "cutOff", "(I)V"⟩
abbrev cX2_hookAgain : ByteArray := prog_4_method_8_code
def yX2_hookAgain : MethodName := ⟨RX2, "hookAgain", "(I)V"⟩
abbrev cX2_wants : ByteArray := prog_4_method_9_code
def yX2_wants : MethodName := ⟨RX2, "wants", "(III)I"⟩
abbrev cX2_rate : ByteArray := prog_4_method_10_code
def yX2_rate : MethodName := ⟨RX2, "rate", "(II)I"⟩
abbrev cX2_readRight : ByteArray := prog_4_method_11_code
def yX2_readRight : MethodName := ⟨RX2, "readRight", "(III)I"⟩
abbrev cX2_estimateOn : ByteArray := prog_4_method_12_code
def yX2_estimateOn : MethodName := ⟨RX2, "estimateOn", "(III)I"⟩
abbrev cX2_readEstimated : ByteArray := prog_4_method_13_code
def yX2_readEstimated : MethodName := ⟨RX2, "readEstimated", "(III)I"⟩
abbrev cX2_lossOf : ByteArray := prog_4_method_14_code
def yX2_lossOf : MethodName := ⟨RX2, "lossOf", "(I)I"⟩
abbrev cX2_suspectOf : ByteArray := prog_4_method_15_code
def yX2_suspectOf : MethodName := ⟨RX2, "suspectOf", "(I)I"⟩
abbrev cX2_goBy : ByteArray := prog_4_method_16_code
def yX2_goBy : MethodName := ⟨RX2, "goBy", "(LUtilityWorks$Town;)V"⟩
abbrev cX2_countOn : ByteArray := prog_4_method_17_code
def yX2_countOn : MethodName := ⟨RX2, "countOn", "(IIII)V"⟩
abbrev cX2_isWell : ByteArray := prog_4_method_18_code
def yX2_isWell : MethodName := ⟨RX2, "isWell", "()Z"⟩
def RX3 : String := "UtilityWorks$Grid"
def TX3 : u_T := fun k => match k with
  | 0 => ("UtilityWorks$Grid", "links", "[[I", true)
  | 1 => ("UtilityWorks$Grid", "streets", "[[I", true)
  | 2 => ("UtilityWorks$Grid", "permits", "[[I", true)
  | _ => ("UtilityWorks$Grid", "height", "[I", true)
def tyX3 : Nat → FieldType := fun k => match k with
  | 0 => .array (.array .int)
  | 1 => .array (.array .int)
  | 2 => .array (.array .int)
  | _ => .array .int
abbrev wsX30 : List Cond := u_ws RX3 TX3 4
theorem nmX3 : ∀ a, a < 4 → ∀ b, b < 4 → a ≠ b → (TX3 a).2.1 ≠ (TX3 b).2.1 := by decide +kernel
theorem tyX3_ok : ∀ k, k < 4 → parseFieldDescriptor (TX3 k).2.2.1 = some (tyX3 k) := by decide +kernel
abbrev cX3_init : ByteArray := prog_5_method_1_code
def yX3_init : MethodName := ⟨RX3, "<init>", "()V"⟩
abbrev cX3_copyFrom : ByteArray := prog_5_method_2_code
def yX3_copyFrom : MethodName := ⟨RX3, "copyFrom", "(LUtilityWorks$Grid;)V"⟩
abbrev cX3_linkOf : ByteArray := prog_5_method_3_code
def yX3_linkOf : MethodName := ⟨RX3, "linkOf", "(II)[I"⟩
abbrev cX3_putLink : ByteArray := prog_5_method_4_code
def yX3_putLink : MethodName := ⟨RX3, "putLink", "(IIIZ)V"⟩
abbrev cX3_hasLink : ByteArray := prog_5_method_5_code
def yX3_hasLink : MethodName := ⟨RX3, "hasLink", "(II)Z"⟩
abbrev cX3_leads : ByteArray := prog_5_method_6_code
def yX3_leads : MethodName := ⟨RX3, "leads", "(II)Z"⟩
abbrev cX3_isBroken : ByteArray := prog_5_method_7_code
def yX3_isBroken : MethodName := ⟨RX3, "isBroken", "(II)Z"⟩
abbrev cX3_linkTells : ByteArray := prog_5_method_8_code
def yX3_linkTells : MethodName := ⟨RX3, "linkTells", "(III)I"⟩
abbrev cX3_countLinks : ByteArray := prog_5_method_9_code
def yX3_countLinks : MethodName := ⟨RX3, "countLinks", "(IZ)I"⟩
abbrev cX3_countStreets : ByteArray := prog_5_method_10_code
def yX3_countStreets : MethodName := ⟨RX3, "countStreets", "(I)I"⟩
abbrev cX3_countPermits : ByteArray := prog_5_method_11_code
def yX3_countPermits : MethodName := ⟨RX3, "countPermits", "()I"⟩
abbrev cX3_openLinks : ByteArray := prog_5_method_12_code
def yX3_openLinks : MethodName := ⟨RX3, "openLinks", "(ILUtilityWorks$Ways;)V"⟩
abbrev cX3_areJoined : ByteArray := prog_5_method_13_code
def yX3_areJoined : MethodName := ⟨RX3, "areJoined", "(IIILUtilityWorks$Ways;)Z"⟩
abbrev cX3_closesRing : ByteArray := prog_5_method_14_code
def yX3_closesRing : MethodName := ⟨RX3, "closesRing", "(ILUtilityWorks$Ways;)Z"⟩
abbrev cX3_makeSound : ByteArray := prog_5_method_15_code
def yX3_makeSound : MethodName := ⟨RX3, "makeSound", "(IILUtilityWorks$Ways;)V"⟩
abbrev cX3_mendAndTurn : ByteArray := prog_5_method_16_code
def yX3_mendAndTurn : MethodName := ⟨RX3, "mendAndTurn", "(ILUtilityWorks$Ways;)I"⟩
abbrev cX3_breakAgain : ByteArray := prog_5_method_17_code
def yX3_breakAgain : MethodName := ⟨RX3, "breakAgain", "(II)V"⟩
abbrev cX3_firstBroken : ByteArray := prog_5_method_18_code
def yX3_firstBroken : MethodName := ⟨RX3, "firstBroken", "([I)I"⟩
abbrev cX3_isDug : ByteArray := prog_5_method_19_code
def yX3_isDug : MethodName := ⟨RX3, "isDug", "(I)Z"⟩
abbrev cX3_fill : ByteArray := prog_5_method_20_code
def yX3_fill : MethodName := ⟨RX3, "fill", "(II)V"⟩
abbrev cX3_openStreets : ByteArray := prog_5_method_21_code
def yX3_openStreets : MethodName := ⟨RX3, "openStreets", "(LUtilityWorks$Ways;)V"⟩
abbrev cX3_openStreetsIn : ByteArray := prog_5_method_22_code
def yX3_openStreetsIn : MethodName := ⟨RX3, "openStreetsIn", "(ILUtilityWorks$Ways;)V"⟩
abbrev cX3_isUnder : ByteArray := prog_5_method_23_code
def yX3_isUnder : MethodName := ⟨RX3, "isUnder", "(II)Z"⟩
abbrev cX3_isPermit : ByteArray := prog_5_method_24_code
def yX3_isPermit : MethodName := ⟨RX3, "isPermit", "(I)Z"⟩
abbrev cX3_freePermit : ByteArray := prog_5_method_25_code
def yX3_freePermit : MethodName := ⟨RX3, "freePermit", "()I"⟩
abbrev cX3_isFor : ByteArray := prog_5_method_26_code
def yX3_isFor : MethodName := ⟨RX3, "isFor", "(II)Z"⟩
abbrev cX3_holds : ByteArray := prog_5_method_27_code
def yX3_holds : MethodName := ⟨RX3, "holds", "(II)Z"⟩
abbrev cX3_holderOn : ByteArray := prog_5_method_28_code
def yX3_holderOn : MethodName := ⟨RX3, "holderOn", "(II)I"⟩
abbrev cX3_mayDigFor : ByteArray := prog_5_method_29_code
def yX3_mayDigFor : MethodName := ⟨RX3, "mayDigFor", "(III)Z"⟩
abbrev cX3_isTaken : ByteArray := prog_5_method_30_code
def yX3_isTaken : MethodName := ⟨RX3, "isTaken", "(III)Z"⟩
abbrev cX3_meetsMarket : ByteArray := prog_5_method_31_code
def yX3_meetsMarket : MethodName := ⟨RX3, "meetsMarket", "(III)Z"⟩
abbrev cX3_reasonAgainst : ByteArray := prog_5_method_32_code
def yX3_reasonAgainst : MethodName := ⟨RX3, "reasonAgainst", "(LUtilityWorks$Town;III)I"⟩
abbrev cX3_goBy : ByteArray := prog_5_method_33_code
def yX3_goBy : MethodName := ⟨RX3, "goBy", "(LUtilityWorks$Town;)V"⟩
abbrev cX3_isWell : ByteArray := prog_5_method_34_code
def yX3_isWell : MethodName := ⟨RX3, "isWell", "(LUtilityWorks$Town;)Z"⟩
abbrev cX3_meetsAnother : ByteArray := prog_5_method_35_code
def yX3_meetsAnother : MethodName := ⟨RX3, "meetsAnother", "(I)Z"⟩
def RX4 : String := "UtilityWorks$Heat"
def TX4 : u_T := fun k => match k with
  | 0 => ("UtilityWorks$Heat", "count", "I", false)
  | 1 => ("UtilityWorks$Heat", "boilers", "[[I", true)
  | 2 => ("UtilityWorks$Heat", "warmth", "[I", true)
  | 3 => ("UtilityWorks$Heat", "sums", "[J", true)
  | 4 => ("UtilityWorks$Heat", "frost", "I", false)
  | 5 => ("UtilityWorks$Heat", "lacks", "[I", true)
  | 6 => ("UtilityWorks$Heat", "can", "[I", true)
  | 7 => ("UtilityWorks$Heat", "made", "[I", true)
  | 8 => ("UtilityWorks$Heat", "wants", "[I", true)
  | 9 => ("UtilityWorks$Heat", "gets", "[I", true)
  | 10 => ("UtilityWorks$Heat", "left", "[I", true)
  | 11 => ("UtilityWorks$Heat", "took", "[[I", true)
  | 12 => ("UtilityWorks$Heat", "lost", "[I", true)
  | 13 => ("UtilityWorks$Heat", "room", "[I", true)
  | _ => ("UtilityWorks$Heat", "got", "[I", true)
def tyX4 : Nat → FieldType := fun k => match k with
  | 0 => .int
  | 1 => .array (.array .int)
  | 2 => .array .int
  | 3 => .array .long
  | 4 => .int
  | 5 => .array .int
  | 6 => .array .int
  | 7 => .array .int
  | 8 => .array .int
  | 9 => .array .int
  | 10 => .array .int
  | 11 => .array (.array .int)
  | 12 => .array .int
  | 13 => .array .int
  | _ => .array .int
abbrev wsX40 : List Cond := u_ws RX4 TX4 15
theorem nmX4 : ∀ a, a < 15 → ∀ b, b < 15 → a ≠ b → (TX4 a).2.1 ≠ (TX4 b).2.1 := by decide +kernel
theorem tyX4_ok : ∀ k, k < 15 → parseFieldDescriptor (TX4 k).2.2.1 = some (tyX4 k) := by decide +kernel
abbrev cX4_init : ByteArray := prog_6_method_1_code
def yX4_init : MethodName := ⟨RX4, "<init>", "()V"⟩
abbrev cX4_copyFrom : ByteArray := prog_6_method_2_code
def yX4_copyFrom : MethodName := ⟨RX4, "copyFrom", "(LUtilityWorks$Heat;)V"⟩
abbrev cX4_build : ByteArray := prog_6_method_3_code
def yX4_build : MethodName := ⟨RX4, "build", "(II)I"⟩
abbrev cX4_waterNeed : ByteArray := prog_6_method_4_code
def yX4_waterNeed : MethodName := ⟨RX4, "waterNeed", "(I)I"⟩
abbrev cX4_burned : ByteArray := prog_6_method_5_code
def yX4_burned : MethodName := ⟨RX4, "burned", "(I)I"⟩
abbrev cX4_reckon : ByteArray := prog_6_method_6_code
def yX4_reckon : MethodName := ⟨RX4, "reckon", "(LUtilityWorks$Town;)V"⟩
abbrev cX4_lackOf : ByteArray := prog_6_method_7_code
def yX4_lackOf : MethodName := ⟨RX4, "lackOf", "(LUtilityWorks$Town;I)I"⟩
abbrev cX4_capacityNow : ByteArray := prog_6_method_8_code
def yX4_capacityNow : MethodName := ⟨RX4, "capacityNow", "(I)I"⟩
abbrev cX4_findPair : ByteArray := prog_6_method_9_code
def yX4_findPair : MethodName := ⟨RX4, "findPair", "(LUtilityWorks$Town;)I"⟩
abbrev cX4_mostSent : ByteArray := prog_6_method_10_code
def yX4_mostSent : MethodName := ⟨RX4, "mostSent", "(LUtilityWorks$Ways;II)I"⟩
abbrev cX4_leastSent : ByteArray := prog_6_method_11_code
def yX4_leastSent : MethodName := ⟨RX4, "leastSent", "(II)I"⟩
abbrev cX4_comesOut : ByteArray := prog_6_method_12_code
def yX4_comesOut : MethodName := ⟨RX4, "comesOut", "(II)I"⟩
abbrev cX4_send : ByteArray := prog_6_method_13_code
def yX4_send : MethodName := ⟨RX4, "send", "(LUtilityWorks$Town;II)V"⟩
abbrev cX4_handOut : ByteArray := prog_6_method_14_code
def yX4_handOut : MethodName := ⟨RX4, "handOut", "(LUtilityWorks$Town;I)V"⟩
abbrev cX4_boilerTells : ByteArray := prog_6_method_15_code
def yX4_boilerTells : MethodName := ⟨RX4, "boilerTells", "(II)I"⟩
abbrev cX4_mainTells : ByteArray := prog_6_method_16_code
def yX4_mainTells : MethodName := ⟨RX4, "mainTells", "(LUtilityWorks$Town;II)I"⟩
abbrev cX4_tellsAt : ByteArray := prog_6_method_17_code
def yX4_tellsAt : MethodName := ⟨RX4, "tellsAt", "(LUtilityWorks$Town;II)I"⟩
abbrev cX4_madeLessGot : ByteArray := prog_6_method_18_code
def yX4_madeLessGot : MethodName := ⟨RX4, "madeLessGot", "()I"⟩
abbrev cX4_goBy : ByteArray := prog_6_method_19_code
def yX4_goBy : MethodName := ⟨RX4, "goBy", "(LUtilityWorks$Town;)V"⟩
abbrev cX4_warm : ByteArray := prog_6_method_20_code
def yX4_warm : MethodName := ⟨RX4, "warm", "(LUtilityWorks$Town;I)V"⟩
abbrev cX4_isWell : ByteArray := prog_6_method_21_code
def yX4_isWell : MethodName := ⟨RX4, "isWell", "(LUtilityWorks$Town;)Z"⟩
def RX5 : String := "UtilityWorks$Power"
def TX5 : u_T := fun k => match k with
  | 0 => ("UtilityWorks$Power", "count", "I", false)
  | 1 => ("UtilityWorks$Power", "plants", "[[I", true)
  | 2 => ("UtilityWorks$Power", "dark", "[I", true)
  | 3 => ("UtilityWorks$Power", "sums", "[J", true)
  | 4 => ("UtilityWorks$Power", "leads", "[Z", true)
  | 5 => ("UtilityWorks$Power", "island", "[I", true)
  | 6 => ("UtilityWorks$Power", "left", "[I", true)
  | 7 => ("UtilityWorks$Power", "needs", "[I", true)
  | 8 => ("UtilityWorks$Power", "gets", "[I", true)
  | 9 => ("UtilityWorks$Power", "net", "[I", true)
  | 10 => ("UtilityWorks$Power", "flow", "[I", true)
  | 11 => ("UtilityWorks$Power", "gives", "[I", true)
  | 12 => ("UtilityWorks$Power", "got", "[I", true)
  | 13 => ("UtilityWorks$Power", "shedSets", "[I", true)
  | 14 => ("UtilityWorks$Power", "spares", "[I", true)
  | 15 => ("UtilityWorks$Power", "bestWorth", "I", false)
  | _ => ("UtilityWorks$Power", "bestSet", "I", false)
def tyX5 : Nat → FieldType := fun k => match k with
  | 0 => .int
  | 1 => .array (.array .int)
  | 2 => .array .int
  | 3 => .array .long
  | 4 => .array .boolean
  | 5 => .array .int
  | 6 => .array .int
  | 7 => .array .int
  | 8 => .array .int
  | 9 => .array .int
  | 10 => .array .int
  | 11 => .array .int
  | 12 => .array .int
  | 13 => .array .int
  | 14 => .array .int
  | 15 => .int
  | _ => .int
abbrev wsX50 : List Cond := u_ws RX5 TX5 17
theorem nmX5 : ∀ a, a < 17 → ∀ b, b < 17 → a ≠ b → (TX5 a).2.1 ≠ (TX5 b).2.1 := by decide +kernel
theorem tyX5_ok : ∀ k, k < 17 → parseFieldDescriptor (TX5 k).2.2.1 = some (tyX5 k) := by decide +kernel
abbrev cX5_init : ByteArray := prog_7_method_1_code
def yX5_init : MethodName := ⟨RX5, "<init>", "()V"⟩
abbrev cX5_copyFrom : ByteArray := prog_7_method_2_code
def yX5_copyFrom : MethodName := ⟨RX5, "copyFrom", "(LUtilityWorks$Power;)V"⟩
abbrev cX5_build : ByteArray := prog_7_method_3_code
def yX5_build : MethodName := ⟨RX5, "build", "(II)I"⟩
abbrev cX5_reckon : ByteArray := prog_7_method_4_code
def yX5_reckon : MethodName := ⟨RX5, "reckon", "(LUtilityWorks$Town;)V"⟩
abbrev cX5_label : ByteArray := prog_7_method_5_code
def yX5_label : MethodName := ⟨RX5, "label", "(LUtilityWorks$Town;)V"⟩
abbrev cX5_feedAll : ByteArray := prog_7_method_6_code
def yX5_feedAll : MethodName := ⟨RX5, "feedAll", "(LUtilityWorks$Town;)V"⟩
abbrev cX5_feed : ByteArray := prog_7_method_7_code
def yX5_feed : MethodName := ⟨RX5, "feed", "(II)Z"⟩
abbrev cX5_plantsGive : ByteArray := prog_7_method_8_code
def yX5_plantsGive : MethodName := ⟨RX5, "plantsGive", "()V"⟩
abbrev cX5_findFlows : ByteArray := prog_7_method_9_code
def yX5_findFlows : MethodName := ⟨RX5, "findFlows", "(LUtilityWorks$Town;)V"⟩
abbrev cX5_mostOverBound : ByteArray := prog_7_method_10_code
def yX5_mostOverBound : MethodName := ⟨RX5, "mostOverBound", "(LUtilityWorks$Grid;)I"⟩
abbrev cX5_isShed : ByteArray := prog_7_method_11_code
def yX5_isShed : MethodName := ⟨RX5, "isShed", "(II)Z"⟩
abbrev cX5_tellsAt : ByteArray := prog_7_method_12_code
def yX5_tellsAt : MethodName := ⟨RX5, "tellsAt", "(II)I"⟩
abbrev cX5_capacityOf : ByteArray := prog_7_method_13_code
def yX5_capacityOf : MethodName := ⟨RX5, "capacityOf", "(I)I"⟩
abbrev cX5_needsOf : ByteArray := prog_7_method_14_code
def yX5_needsOf : MethodName := ⟨RX5, "needsOf", "(I)I"⟩
abbrev cX5_lowSideGives : ByteArray := prog_7_method_15_code
def yX5_lowSideGives : MethodName := ⟨RX5, "lowSideGives", "(LUtilityWorks$Town;I)I"⟩
abbrev cX5_findSwitching : ByteArray := prog_7_method_16_code
def yX5_findSwitching : MethodName := ⟨RX5, "findSwitching", "(LUtilityWorks$Town;)V"⟩
abbrev cX5_trySwitching : ByteArray := prog_7_method_17_code
def yX5_trySwitching : MethodName := ⟨RX5, "trySwitching", "(LUtilityWorks$Town;II)V"⟩
abbrev cX5_goBy : ByteArray := prog_7_method_18_code
def yX5_goBy : MethodName := ⟨RX5, "goBy", "(LUtilityWorks$Town;)V"⟩
abbrev cX5_isWell : ByteArray := prog_7_method_19_code
def yX5_isWell : MethodName := ⟨RX5, "isWell", "(LUtilityWorks$Town;)Z"⟩
abbrev cX5_closesSomeRing : ByteArray := prog_7_method_20_code
def yX5_closesSomeRing : MethodName := ⟨RX5, "closesSomeRing", "(LUtilityWorks$Town;)Z"⟩
def RX6 : String := "UtilityWorks$Sky"
def TX6 : u_T := fun k => match k with
  | 0 => ("UtilityWorks$Sky", "temperature", "I", false)
  | 1 => ("UtilityWorks$Sky", "wind", "I", false)
  | 2 => ("UtilityWorks$Sky", "rain", "I", false)
  | 3 => ("UtilityWorks$Sky", "drawn", "Z", false)
  | 4 => ("UtilityWorks$Sky", "seed", "I", false)
  | 5 => ("UtilityWorks$Sky", "alarm", "Z", false)
  | 6 => ("UtilityWorks$Sky", "storms", "[[I", true)
  | _ => ("UtilityWorks$Sky", "report", "[I", true)
def tyX6 : Nat → FieldType := fun k => match k with
  | 0 => .int
  | 1 => .int
  | 2 => .int
  | 3 => .boolean
  | 4 => .int
  | 5 => .boolean
  | 6 => .array (.array .int)
  | _ => .array .int
abbrev wsX60 : List Cond := u_ws RX6 TX6 8
theorem nmX6 : ∀ a, a < 8 → ∀ b, b < 8 → a ≠ b → (TX6 a).2.1 ≠ (TX6 b).2.1 := by decide +kernel
theorem tyX6_ok : ∀ k, k < 8 → parseFieldDescriptor (TX6 k).2.2.1 = some (tyX6 k) := by decide +kernel
abbrev cX6_init : ByteArray := prog_8_method_1_code
def yX6_init : MethodName := ⟨RX6, "<init>", "()V"⟩
abbrev cX6_copyFrom : ByteArray := prog_8_method_2_code
def yX6_copyFrom : MethodName := ⟨RX6, "copyFrom", "(LUtilityWorks$Sky;)V"⟩
abbrev cX6_cold : ByteArray := prog_8_method_3_code
def yX6_cold : MethodName := ⟨RX6, "cold", "()I"⟩
abbrev cX6_nextSeed : ByteArray := prog_8_method_4_code
def yX6_nextSeed : MethodName := ⟨RX6, "nextSeed", "()I"⟩
abbrev cX6_nextRain : ByteArray := prog_8_method_5_code
def yX6_nextRain : MethodName := ⟨RX6, "nextRain", "()I"⟩
abbrev cX6_tells : ByteArray := prog_8_method_6_code
def yX6_tells : MethodName := ⟨RX6, "tells", "(I)I"⟩
abbrev cX6_isStorm : ByteArray := prog_8_method_7_code
def yX6_isStorm : MethodName := ⟨RX6, "isStorm", "(I)Z"⟩
abbrev cX6_stormCount : ByteArray := prog_8_method_8_code
def yX6_stormCount : MethodName := ⟨RX6, "stormCount", "()I"⟩
abbrev cX6_freeStorm : ByteArray := prog_8_method_9_code
def yX6_freeStorm : MethodName := ⟨RX6, "freeStorm", "()I"⟩
abbrev cX6_tellStorm : ByteArray := prog_8_method_10_code
def yX6_tellStorm : MethodName := ⟨RX6, "tellStorm", "(III)V"⟩
abbrev cX6_isOver : ByteArray := prog_8_method_11_code
def yX6_isOver : MethodName := ⟨RX6, "isOver", "(II)Z"⟩
abbrev cX6_forceAt : ByteArray := prog_8_method_12_code
def yX6_forceAt : MethodName := ⟨RX6, "forceAt", "(I)I"⟩
abbrev cX6_strikes : ByteArray := prog_8_method_13_code
def yX6_strikes : MethodName := ⟨RX6, "strikes", "(LUtilityWorks$Grid;I)Z"⟩
abbrev cX6_goBy : ByteArray := prog_8_method_14_code
def yX6_goBy : MethodName := ⟨RX6, "goBy", "(LUtilityWorks$Town;)V"⟩
abbrev cX6_moveStorms : ByteArray := prog_8_method_15_code
def yX6_moveStorms : MethodName := ⟨RX6, "moveStorms", "()V"⟩
abbrev cX6_countBroken : ByteArray := prog_8_method_16_code
def yX6_countBroken : MethodName := ⟨RX6, "countBroken", "(I)V"⟩
abbrev cX6_isWell : ByteArray := prog_8_method_17_code
def yX6_isWell : MethodName := ⟨RX6, "isWell", "()Z"⟩
def RX7 : String := "UtilityWorks$Stores"
def TX7 : u_T := fun k => match k with
  | 0 => ("UtilityWorks$Stores", "rows", "[[I", true)
  | _ => ("UtilityWorks$Stores", "coming", "[[I", true)
def tyX7 : Nat → FieldType := fun k => match k with
  | 0 => .array (.array .int)
  | _ => .array (.array .int)
abbrev wsX70 : List Cond := u_ws RX7 TX7 2
theorem nmX7 : ∀ a, a < 2 → ∀ b, b < 2 → a ≠ b → (TX7 a).2.1 ≠ (TX7 b).2.1 := by decide +kernel
theorem tyX7_ok : ∀ k, k < 2 → parseFieldDescriptor (TX7 k).2.2.1 = some (tyX7 k) := by decide +kernel
abbrev cX7_init : ByteArray := prog_9_method_1_code
def yX7_init : MethodName := ⟨RX7, "<init>", "()V"⟩
abbrev cX7_copyFrom : ByteArray := prog_9_method_2_code
def yX7_copyFrom : MethodName := ⟨RX7, "copyFrom", "(LUtilityWorks$Stores;)V"⟩
abbrev cX7_has : ByteArray := prog_9_method_3_code
def yX7_has : MethodName := ⟨RX7, "has", "(II)Z"⟩
abbrev cX7_take : ByteArray := prog_9_method_4_code
def yX7_take : MethodName := ⟨RX7, "take", "(II)V"⟩
abbrev cX7_ordered : ByteArray := prog_9_method_5_code
def yX7_ordered : MethodName := ⟨RX7, "ordered", "(I)I"⟩
abbrev cX7_freeOrder : ByteArray := prog_9_method_6_code
def yX7_freeOrder : MethodName := ⟨RX7, "freeOrder", "()I"⟩
abbrev cX7_canOrder : ByteArray := prog_9_method_7_code
def yX7_canOrder : MethodName := ⟨RX7, "canOrder", "(LUtilityWorks$Books;II)Z"⟩
abbrev cX7_makeOrder : ByteArray := prog_9_method_8_code
def yX7_makeOrder : MethodName := ⟨RX7, "makeOrder", "(LUtilityWorks$Town;II)I"⟩
abbrev cX7_goBy : ByteArray := prog_9_method_9_code
def yX7_goBy : MethodName := ⟨RX7, "goBy", "(LUtilityWorks$Town;)V"⟩
abbrev cX7_store : ByteArray := prog_9_method_10_code
def yX7_store : MethodName := ⟨RX7, "store", "(II)V"⟩
abbrev cX7_isWell : ByteArray := prog_9_method_11_code
def yX7_isWell : MethodName := ⟨RX7, "isWell", "()Z"⟩
def RX8 : String := "UtilityWorks$Town"
def TX8 : u_T := fun k => match k with
  | 0 => ("UtilityWorks$Town", "day", "I", false)
  | 1 => ("UtilityWorks$Town", "ways", "LUtilityWorks$Ways;", true)
  | 2 => ("UtilityWorks$Town", "grid", "LUtilityWorks$Grid;", true)
  | 3 => ("UtilityWorks$Town", "power", "LUtilityWorks$Power;", true)
  | 4 => ("UtilityWorks$Town", "water", "LUtilityWorks$Water;", true)
  | 5 => ("UtilityWorks$Town", "heat", "LUtilityWorks$Heat;", true)
  | 6 => ("UtilityWorks$Town", "customers", "LUtilityWorks$Customers;", true)
  | 7 => ("UtilityWorks$Town", "books", "LUtilityWorks$Books;", true)
  | 8 => ("UtilityWorks$Town", "crews", "LUtilityWorks$Crews;", true)
  | 9 => ("UtilityWorks$Town", "stores", "LUtilityWorks$Stores;", true)
  | 10 => ("UtilityWorks$Town", "sky", "LUtilityWorks$Sky;", true)
  | 11 => ("UtilityWorks$Town", "brokenLinks", "[I", true)
  | 12 => ("UtilityWorks$Town", "bestLinks", "[I", true)
  | 13 => ("UtilityWorks$Town", "bestWorth", "I", false)
  | 14 => ("UtilityWorks$Town", "bestMany", "I", false)
  | _ => ("UtilityWorks$Town", "getsBefore", "[I", true)
def tyX8 : Nat → FieldType := fun k => match k with
  | 0 => .int
  | 1 => .object "UtilityWorks$Ways"
  | 2 => .object "UtilityWorks$Grid"
  | 3 => .object "UtilityWorks$Power"
  | 4 => .object "UtilityWorks$Water"
  | 5 => .object "UtilityWorks$Heat"
  | 6 => .object "UtilityWorks$Customers"
  | 7 => .object "UtilityWorks$Books"
  | 8 => .object "UtilityWorks$Crews"
  | 9 => .object "UtilityWorks$Stores"
  | 10 => .object "UtilityWorks$Sky"
  | 11 => .array .int
  | 12 => .array .int
  | 13 => .int
  | 14 => .int
  | _ => .array .int
abbrev wsX80 : List Cond := u_ws RX8 TX8 16
theorem nmX8 : ∀ a, a < 16 → ∀ b, b < 16 → a ≠ b → (TX8 a).2.1 ≠ (TX8 b).2.1 := by decide +kernel
theorem tyX8_ok : ∀ k, k < 16 → parseFieldDescriptor (TX8 k).2.2.1 = some (tyX8 k) := by decide +kernel
abbrev cX8_init : ByteArray := prog_10_method_1_code
def yX8_init : MethodName := ⟨RX8, "<init>", "()V"⟩
abbrev cX8_copyFrom : ByteArray := prog_10_method_2_code
def yX8_copyFrom : MethodName := ⟨RX8, "copyFrom", "(LUtilityWorks$Town;)V"⟩
abbrev cX8_reckonWater : ByteArray := prog_10_method_3_code
def yX8_reckonWater : MethodName := ⟨RX8, "reckonWater", "()V"⟩
abbrev cX8_reckonHeat : ByteArray := prog_10_method_4_code
def yX8_reckonHeat : MethodName := ⟨RX8, "reckonHeat", "()V"⟩
abbrev cX8_lessWithout : ByteArray := prog_10_method_5_code
def yX8_lessWithout : MethodName := ⟨RX8, "lessWithout", "(II)I"⟩
abbrev cX8_countContent : ByteArray := prog_10_method_6_code
def yX8_countContent : MethodName := ⟨RX8, "countContent", "()I"⟩
abbrev cX8_gainOf : ByteArray := prog_10_method_7_code
def yX8_gainOf : MethodName := ⟨RX8, "gainOf", "(II)I"⟩
abbrev cX8_findMending : ByteArray := prog_10_method_8_code
def yX8_findMending : MethodName := ⟨RX8, "findMending", "()V"⟩
abbrev cX8_considerMending : ByteArray := prog_10_method_9_code
def yX8_considerMending : MethodName := ⟨RX8, "considerMending", "(IIIII)V"⟩
def RX9 : String := "UtilityWorks$Water"
def TX9 : u_T := fun k => match k with
  | 0 => ("UtilityWorks$Water", "wellCount", "I", false)
  | 1 => ("UtilityWorks$Water", "wells", "[[I", true)
  | 2 => ("UtilityWorks$Water", "tankCount", "I", false)
  | 3 => ("UtilityWorks$Water", "tanks", "[[I", true)
  | 4 => ("UtilityWorks$Water", "shortDays", "[I", true)
  | 5 => ("UtilityWorks$Water", "sums", "[J", true)
  | 6 => ("UtilityWorks$Water", "place", "[I", true)
  | 7 => ("UtilityWorks$Water", "head", "[I", true)
  | 8 => ("UtilityWorks$Water", "can", "[I", true)
  | 9 => ("UtilityWorks$Water", "gave", "[I", true)
  | 10 => ("UtilityWorks$Water", "wants", "[I", true)
  | 11 => ("UtilityWorks$Water", "gets", "[I", true)
  | 12 => ("UtilityWorks$Water", "filled", "[I", true)
  | 13 => ("UtilityWorks$Water", "yet", "[I", true)
  | 14 => ("UtilityWorks$Water", "room", "[I", true)
  | 15 => ("UtilityWorks$Water", "along", "[[I", true)
  | 16 => ("UtilityWorks$Water", "went", "[[I", true)
  | _ => ("UtilityWorks$Water", "got", "[I", true)
def tyX9 : Nat → FieldType := fun k => match k with
  | 0 => .int
  | 1 => .array (.array .int)
  | 2 => .int
  | 3 => .array (.array .int)
  | 4 => .array .int
  | 5 => .array .long
  | 6 => .array .int
  | 7 => .array .int
  | 8 => .array .int
  | 9 => .array .int
  | 10 => .array .int
  | 11 => .array .int
  | 12 => .array .int
  | 13 => .array .int
  | 14 => .array .int
  | 15 => .array (.array .int)
  | 16 => .array (.array .int)
  | _ => .array .int
abbrev wsX90 : List Cond := u_ws RX9 TX9 18
theorem nmX9 : ∀ a, a < 18 → ∀ b, b < 18 → a ≠ b → (TX9 a).2.1 ≠ (TX9 b).2.1 := by decide +kernel
theorem tyX9_ok : ∀ k, k < 18 → parseFieldDescriptor (TX9 k).2.2.1 = some (tyX9 k) := by decide +kernel
abbrev cX9_init : ByteArray := prog_11_method_1_code
def yX9_init : MethodName := ⟨RX9, "<init>", "()V"⟩
abbrev cX9_copyFrom : ByteArray := prog_11_method_2_code
def yX9_copyFrom : MethodName := ⟨RX9, "copyFrom", "(LUtilityWorks$Water;)V"⟩
abbrev cX9_digWell : ByteArray := prog_11_method_3_code
def yX9_digWell : MethodName := ⟨RX9, "digWell", "(III)I"⟩
abbrev cX9_buildTank : ByteArray := prog_11_method_4_code
def yX9_buildTank : MethodName := ⟨RX9, "buildTank", "(IIII)I"⟩
abbrev cX9_isRunning : ByteArray := prog_11_method_5_code
def yX9_isRunning : MethodName := ⟨RX9, "isRunning", "(LUtilityWorks$Town;I)Z"⟩
abbrev cX9_isHole : ByteArray := prog_11_method_6_code
def yX9_isHole : MethodName := ⟨RX9, "isHole", "(LUtilityWorks$Grid;I)Z"⟩
abbrev cX9_holeAt : ByteArray := prog_11_method_7_code
def yX9_holeAt : MethodName := ⟨RX9, "holeAt", "(LUtilityWorks$Grid;I)I"⟩
abbrev cX9_reckon : ByteArray := prog_11_method_8_code
def yX9_reckon : MethodName := ⟨RX9, "reckon", "(LUtilityWorks$Town;)V"⟩
abbrev cX9_findWants : ByteArray := prog_11_method_9_code
def yX9_findWants : MethodName := ⟨RX9, "findWants", "(LUtilityWorks$Town;)V"⟩
abbrev cX9_begin : ByteArray := prog_11_method_10_code
def yX9_begin : MethodName := ⟨RX9, "begin", "(LUtilityWorks$Grid;)V"⟩
abbrev cX9_carryAll : ByteArray := prog_11_method_11_code
def yX9_carryAll : MethodName := ⟨RX9, "carryAll", "(LUtilityWorks$Town;II[I)V"⟩
abbrev cX9_openPipes : ByteArray := prog_11_method_12_code
def yX9_openPipes : MethodName := ⟨RX9, "openPipes", "(LUtilityWorks$Town;)V"⟩
abbrev cX9_findPair : ByteArray := prog_11_method_13_code
def yX9_findPair : MethodName := ⟨RX9, "findPair", "(LUtilityWorks$Town;II)I"⟩
abbrev cX9_carry : ByteArray := prog_11_method_14_code
def yX9_carry : MethodName := ⟨RX9, "carry", "(LUtilityWorks$Town;II[I)V"⟩
abbrev cX9_handOut : ByteArray := prog_11_method_15_code
def yX9_handOut : MethodName := ⟨RX9, "handOut", "(LUtilityWorks$Town;)V"⟩
abbrev cX9_hand : ByteArray := prog_11_method_16_code
def yX9_hand : MethodName := ⟨RX9, "hand", "(III)I"⟩
abbrev cX9_wellTells : ByteArray := prog_11_method_17_code
def yX9_wellTells : MethodName := ⟨RX9, "wellTells", "(LUtilityWorks$Town;II)I"⟩
abbrev cX9_levelThen : ByteArray := prog_11_method_18_code
def yX9_levelThen : MethodName := ⟨RX9, "levelThen", "(I)I"⟩
abbrev cX9_tankTells : ByteArray := prog_11_method_19_code
def yX9_tankTells : MethodName := ⟨RX9, "tankTells", "(II)I"⟩
abbrev cX9_pipeTells : ByteArray := prog_11_method_20_code
def yX9_pipeTells : MethodName := ⟨RX9, "pipeTells", "(LUtilityWorks$Town;II)I"⟩
abbrev cX9_tellsAt : ByteArray := prog_11_method_21_code
def yX9_tellsAt : MethodName := ⟨RX9, "tellsAt", "(II)I"⟩
abbrev cX9_getsAnew : ByteArray := prog_11_method_22_code
def yX9_getsAnew : MethodName := ⟨RX9, "getsAnew", "(I)I"⟩
abbrev cX9_putOut : ByteArray := prog_11_method_23_code
def yX9_putOut : MethodName := ⟨RX9, "putOut", "(LUtilityWorks$Town;II)I"⟩
abbrev cX9_levels : ByteArray := prog_11_method_24_code
def yX9_levels : MethodName := ⟨RX9, "levels", "()J"⟩
abbrev cX9_goBy : ByteArray := prog_11_method_25_code
def yX9_goBy : MethodName := ⟨RX9, "goBy", "(LUtilityWorks$Town;)V"⟩
abbrev cX9_isShortNow : ByteArray := prog_11_method_26_code
def yX9_isShortNow : MethodName := ⟨RX9, "isShortNow", "(LUtilityWorks$Customers;I)Z"⟩
abbrev cX9_strain : ByteArray := prog_11_method_27_code
def yX9_strain : MethodName := ⟨RX9, "strain", "(LUtilityWorks$Town;I)V"⟩
abbrev cX9_isWell : ByteArray := prog_11_method_28_code
def yX9_isWell : MethodName := ⟨RX9, "isWell", "(LUtilityWorks$Town;)Z"⟩
def RX10 : String := "UtilityWorks$Ways"
def TX10 : u_T := fun k => match k with
  | 0 => ("UtilityWorks$Ways", "open", "[Z", true)
  | 1 => ("UtilityWorks$Ways", "far", "[I", true)
  | 2 => ("UtilityWorks$Ways", "via", "[I", true)
  | 3 => ("UtilityWorks$Ways", "met", "[I", true)
  | 4 => ("UtilityWorks$Ways", "reached", "I", false)
  | _ => ("UtilityWorks$Ways", "steps", "[I", true)
def tyX10 : Nat → FieldType := fun k => match k with
  | 0 => .array .boolean
  | 1 => .array .int
  | 2 => .array .int
  | 3 => .array .int
  | 4 => .int
  | _ => .array .int
abbrev wsX100 : List Cond := u_ws RX10 TX10 6
theorem nmX10 : ∀ a, a < 6 → ∀ b, b < 6 → a ≠ b → (TX10 a).2.1 ≠ (TX10 b).2.1 := by decide +kernel
theorem tyX10_ok : ∀ k, k < 6 → parseFieldDescriptor (TX10 k).2.2.1 = some (tyX10 k) := by decide +kernel
abbrev cX10_init : ByteArray := prog_12_method_1_code
def yX10_init : MethodName := ⟨RX10, "<init>", "()V"⟩
abbrev cX10_spread : ByteArray := prog_12_method_2_code
def yX10_spread : MethodName := ⟨RX10, "spread", "(I[II)V"⟩
abbrev cX10_trace : ByteArray := prog_12_method_3_code
def yX10_trace : MethodName := ⟨RX10, "trace", "(I)I"⟩
def RX11 : String := "UtilityWorks"
def TX11 : u_T := fun k => match k with
  | 0 => ("UtilityWorks", "town", "LUtilityWorks$Town;", true)
  | _ => ("UtilityWorks", "images", "[LUtilityWorks$Town;", true)
def tyX11 : Nat → FieldType := fun k => match k with
  | 0 => .object "UtilityWorks$Town"
  | _ => .array (.object "UtilityWorks$Town")
abbrev wsX110 : List Cond := u_ws RX11 TX11 2
theorem nmX11 : ∀ a, a < 2 → ∀ b, b < 2 → a ≠ b → (TX11 a).2.1 ≠ (TX11 b).2.1 := by decide +kernel
theorem tyX11_ok : ∀ k, k < 2 → parseFieldDescriptor (TX11 k).2.2.1 = some (tyX11 k) := by decide +kernel
abbrev cX11_init : ByteArray := prog_1_method_1_code
def yX11_init : MethodName := ⟨RX11, "<init>", "()V"⟩
abbrev cX11_linkIs : ByteArray := prog_1_method_2_code
def yX11_linkIs : MethodName := ⟨RX11, "linkIs", "(III)I"⟩
abbrev cX11_turn : ByteArray := prog_1_method_3_code
def yX11_turn : MethodName := ⟨RX11, "turn", "(IIZ)Z"⟩
abbrev cX11_bound : ByteArray := prog_1_method_4_code
def yX11_bound : MethodName := ⟨RX11, "bound", "(III)I"⟩
abbrev cX11_lay : ByteArray := prog_1_method_5_code
def yX11_lay : MethodName := ⟨RX11, "lay", "(III)I"⟩
abbrev cX11_breaks : ByteArray := prog_1_method_6_code
def yX11_breaks : MethodName := ⟨RX11, "breaks", "(II)Z"⟩
abbrev cX11_joined : ByteArray := prog_1_method_7_code
def yX11_joined : MethodName := ⟨RX11, "joined", "(III)Z"⟩
abbrev cX11_pass : ByteArray := prog_1_method_8_code
def yX11_pass : MethodName := ⟨RX11, "pass", "(I)I"⟩
abbrev cX11_keep : ByteArray := prog_1_method_9_code
def yX11_keep : MethodName := ⟨RX11, "keep", "(I)I"⟩
abbrev cX11_bring : ByteArray := prog_1_method_10_code
def yX11_bring : MethodName := ⟨RX11, "bring", "(I)I"⟩
abbrev cX11_count : ByteArray := prog_1_method_11_code
def yX11_count : MethodName := ⟨RX11, "count", "(I)I"⟩
abbrev cX11_isSound : ByteArray := prog_1_method_12_code
def yX11_isSound : MethodName := ⟨RX11, "isSound", "()Z"⟩
abbrev cX11_height : ByteArray := prog_1_method_13_code
def yX11_height : MethodName := ⟨RX11, "height", "(II)I"⟩
abbrev cX11_surface : ByteArray := prog_1_method_14_code
def yX11_surface : MethodName := ⟨RX11, "surface", "(II)I"⟩
abbrev cX11_market : ByteArray := prog_1_method_15_code
def yX11_market : MethodName := ⟨RX11, "market", "(II)I"⟩
abbrev cX11_may : ByteArray := prog_1_method_16_code
def yX11_may : MethodName := ⟨RX11, "may", "(III)I"⟩
abbrev cX11_firstFree : ByteArray := prog_1_method_17_code
def yX11_firstFree : MethodName := ⟨RX11, "firstFree", "(II)I"⟩
abbrev cX11_permit : ByteArray := prog_1_method_18_code
def yX11_permit : MethodName := ⟨RX11, "permit", "(IIII)I"⟩
abbrev cX11_share : ByteArray := prog_1_method_19_code
def yX11_share : MethodName := ⟨RX11, "share", "(II)I"⟩
abbrev cX11_drop : ByteArray := prog_1_method_20_code
def yX11_drop : MethodName := ⟨RX11, "drop", "(I)I"⟩
abbrev cX11_permitIs : ByteArray := prog_1_method_21_code
def yX11_permitIs : MethodName := ⟨RX11, "permitIs", "(II)I"⟩
abbrev cX11_hire : ByteArray := prog_1_method_22_code
def yX11_hire : MethodName := ⟨RX11, "hire", "(IZ)I"⟩
abbrev cX11_streetIs : ByteArray := prog_1_method_23_code
def yX11_streetIs : MethodName := ⟨RX11, "streetIs", "(II)I"⟩
abbrev cX11_way : ByteArray := prog_1_method_24_code
def yX11_way : MethodName := ⟨RX11, "way", "(II)I"⟩
abbrev cX11_wayIs : ByteArray := prog_1_method_25_code
def yX11_wayIs : MethodName := ⟨RX11, "wayIs", "(III)I"⟩
abbrev cX11_isSoundStreets : ByteArray := prog_1_method_26_code
def yX11_isSoundStreets : MethodName := ⟨RX11, "isSoundStreets", "()Z"⟩
abbrev cX11_plant : ByteArray := prog_1_method_27_code
def yX11_plant : MethodName := ⟨RX11, "plant", "(II)I"⟩
abbrev cX11_start : ByteArray := prog_1_method_28_code
def yX11_start : MethodName := ⟨RX11, "start", "(IZ)Z"⟩
abbrev cX11_plantIs : ByteArray := prog_1_method_29_code
def yX11_plantIs : MethodName := ⟨RX11, "plantIs", "(II)I"⟩
abbrev cX11_powerAt : ByteArray := prog_1_method_30_code
def yX11_powerAt : MethodName := ⟨RX11, "powerAt", "(II)I"⟩
abbrev cX11_lineIs : ByteArray := prog_1_method_31_code
def yX11_lineIs : MethodName := ⟨RX11, "lineIs", "(II)I"⟩
abbrev cX11_flowAnew : ByteArray := prog_1_method_32_code
def yX11_flowAnew : MethodName := ⟨RX11, "flowAnew", "(I)I"⟩
abbrev cX11_shed : ByteArray := prog_1_method_33_code
def yX11_shed : MethodName := ⟨RX11, "shed", "(I)I"⟩
abbrev cX11_dark : ByteArray := prog_1_method_34_code
def yX11_dark : MethodName := ⟨RX11, "dark", "(I)I"⟩
abbrev cX11_switching : ByteArray := prog_1_method_35_code
def yX11_switching : MethodName := ⟨RX11, "switching", "(I)I"⟩
abbrev cX11_powerSum : ByteArray := prog_1_method_36_code
def yX11_powerSum : MethodName := ⟨RX11, "powerSum", "(I)J"⟩
abbrev cX11_isSoundPower : ByteArray := prog_1_method_37_code
def yX11_isSoundPower : MethodName := ⟨RX11, "isSoundPower", "()Z"⟩
abbrev cX11_well : ByteArray := prog_1_method_38_code
def yX11_well : MethodName := ⟨RX11, "well", "(III)I"⟩
abbrev cX11_tank : ByteArray := prog_1_method_39_code
def yX11_tank : MethodName := ⟨RX11, "tank", "(III)I"⟩
abbrev cX11_pump : ByteArray := prog_1_method_40_code
def yX11_pump : MethodName := ⟨RX11, "pump", "(IZ)Z"⟩
abbrev cX11_reserve : ByteArray := prog_1_method_41_code
def yX11_reserve : MethodName := ⟨RX11, "reserve", "(II)I"⟩
abbrev cX11_leak : ByteArray := prog_1_method_42_code
def yX11_leak : MethodName := ⟨RX11, "leak", "(II)I"⟩
abbrev cX11_wellIs : ByteArray := prog_1_method_43_code
def yX11_wellIs : MethodName := ⟨RX11, "wellIs", "(II)I"⟩
abbrev cX11_tankIs : ByteArray := prog_1_method_44_code
def yX11_tankIs : MethodName := ⟨RX11, "tankIs", "(II)I"⟩
abbrev cX11_pipeIs : ByteArray := prog_1_method_45_code
def yX11_pipeIs : MethodName := ⟨RX11, "pipeIs", "(II)I"⟩
abbrev cX11_waterAt : ByteArray := prog_1_method_46_code
def yX11_waterAt : MethodName := ⟨RX11, "waterAt", "(II)I"⟩
abbrev cX11_waterAnew : ByteArray := prog_1_method_47_code
def yX11_waterAnew : MethodName := ⟨RX11, "waterAnew", "(I)I"⟩
abbrev cX11_waterWithout : ByteArray := prog_1_method_48_code
def yX11_waterWithout : MethodName := ⟨RX11, "waterWithout", "(I)I"⟩
abbrev cX11_fire : ByteArray := prog_1_method_49_code
def yX11_fire : MethodName := ⟨RX11, "fire", "(II)I"⟩
abbrev cX11_waterSum : ByteArray := prog_1_method_50_code
def yX11_waterSum : MethodName := ⟨RX11, "waterSum", "(I)J"⟩
abbrev cX11_isSoundWater : ByteArray := prog_1_method_51_code
def yX11_isSoundWater : MethodName := ⟨RX11, "isSoundWater", "()Z"⟩
abbrev cX11_boiler : ByteArray := prog_1_method_52_code
def yX11_boiler : MethodName := ⟨RX11, "boiler", "(II)I"⟩
abbrev cX11_coal : ByteArray := prog_1_method_53_code
def yX11_coal : MethodName := ⟨RX11, "coal", "(II)I"⟩
abbrev cX11_light : ByteArray := prog_1_method_54_code
def yX11_light : MethodName := ⟨RX11, "light", "(IZ)Z"⟩
abbrev cX11_boilerIs : ByteArray := prog_1_method_55_code
def yX11_boilerIs : MethodName := ⟨RX11, "boilerIs", "(II)I"⟩
abbrev cX11_mainIs : ByteArray := prog_1_method_56_code
def yX11_mainIs : MethodName := ⟨RX11, "mainIs", "(II)I"⟩
abbrev cX11_heatAt : ByteArray := prog_1_method_57_code
def yX11_heatAt : MethodName := ⟨RX11, "heatAt", "(II)I"⟩
abbrev cX11_warmth : ByteArray := prog_1_method_58_code
def yX11_warmth : MethodName := ⟨RX11, "warmth", "(I)I"⟩
abbrev cX11_lasts : ByteArray := prog_1_method_59_code
def yX11_lasts : MethodName := ⟨RX11, "lasts", "(I)I"⟩
abbrev cX11_lostAnew : ByteArray := prog_1_method_60_code
def yX11_lostAnew : MethodName := ⟨RX11, "lostAnew", "()I"⟩
abbrev cX11_heatWithout : ByteArray := prog_1_method_61_code
def yX11_heatWithout : MethodName := ⟨RX11, "heatWithout", "(I)I"⟩
abbrev cX11_heatSum : ByteArray := prog_1_method_62_code
def yX11_heatSum : MethodName := ⟨RX11, "heatSum", "(I)J"⟩
abbrev cX11_isSoundHeat : ByteArray := prog_1_method_63_code
def yX11_isSoundHeat : MethodName := ⟨RX11, "isSoundHeat", "()Z"⟩
abbrev cX11_customer : ByteArray := prog_1_method_64_code
def yX11_customer : MethodName := ⟨RX11, "customer", "(II)I"⟩
abbrev cX11_need : ByteArray := prog_1_method_65_code
def yX11_need : MethodName := ⟨RX11, "need", "(III)I"⟩
abbrev cX11_connect : ByteArray := prog_1_method_66_code
def yX11_connect : MethodName := ⟨RX11, "connect", "(IIZ)Z"⟩
abbrev cX11_customerIs : ByteArray := prog_1_method_67_code
def yX11_customerIs : MethodName := ⟨RX11, "customerIs", "(II)I"⟩
abbrev cX11_meterIs : ByteArray := prog_1_method_68_code
def yX11_meterIs : MethodName := ⟨RX11, "meterIs", "(III)I"⟩
abbrev cX11_unseal : ByteArray := prog_1_method_69_code
def yX11_unseal : MethodName := ⟨RX11, "unseal", "(II)I"⟩
abbrev cX11_slow : ByteArray := prog_1_method_70_code
def yX11_slow : MethodName := ⟨RX11, "slow", "(III)I"⟩
abbrev cX11_seal : ByteArray := prog_1_method_71_code
def yX11_seal : MethodName := ⟨RX11, "seal", "(II)I"⟩
abbrev cX11_read : ByteArray := prog_1_method_72_code
def yX11_read : MethodName := ⟨RX11, "read", "(II)I"⟩
abbrev cX11_estimate : ByteArray := prog_1_method_73_code
def yX11_estimate : MethodName := ⟨RX11, "estimate", "(II)I"⟩
abbrev cX11_loss : ByteArray := prog_1_method_74_code
def yX11_loss : MethodName := ⟨RX11, "loss", "(I)I"⟩
abbrev cX11_suspect : ByteArray := prog_1_method_75_code
def yX11_suspect : MethodName := ⟨RX11, "suspect", "(I)I"⟩
abbrev cX11_isSoundMeters : ByteArray := prog_1_method_76_code
def yX11_isSoundMeters : MethodName := ⟨RX11, "isSoundMeters", "()Z"⟩
abbrev cX11_tariff : ByteArray := prog_1_method_77_code
def yX11_tariff : MethodName := ⟨RX11, "tariff", "(III)I"⟩
abbrev cX11_pay : ByteArray := prog_1_method_78_code
def yX11_pay : MethodName := ⟨RX11, "pay", "(II)J"⟩
abbrev cX11_owes : ByteArray := prog_1_method_79_code
def yX11_owes : MethodName := ⟨RX11, "owes", "(I)J"⟩
abbrev cX11_split : ByteArray := prog_1_method_80_code
def yX11_split : MethodName := ⟨RX11, "split", "(II)J"⟩
abbrev cX11_planIs : ByteArray := prog_1_method_81_code
def yX11_planIs : MethodName := ⟨RX11, "planIs", "(II)J"⟩
abbrev cX11_poor : ByteArray := prog_1_method_82_code
def yX11_poor : MethodName := ⟨RX11, "poor", "(IZ)Z"⟩
abbrev cX11_fund : ByteArray := prog_1_method_83_code
def yX11_fund : MethodName := ⟨RX11, "fund", "(I)J"⟩
abbrev cX11_bills : ByteArray := prog_1_method_84_code
def yX11_bills : MethodName := ⟨RX11, "bills", "(I)I"⟩
abbrev cX11_billIs : ByteArray := prog_1_method_85_code
def yX11_billIs : MethodName := ⟨RX11, "billIs", "(III)J"⟩
abbrev cX11_billNow : ByteArray := prog_1_method_86_code
def yX11_billNow : MethodName := ⟨RX11, "billNow", "(I)J"⟩
abbrev cX11_notice : ByteArray := prog_1_method_87_code
def yX11_notice : MethodName := ⟨RX11, "notice", "(II)I"⟩
abbrev cX11_journal : ByteArray := prog_1_method_88_code
def yX11_journal : MethodName := ⟨RX11, "journal", "(I)J"⟩
abbrev cX11_isSoundBooks : ByteArray := prog_1_method_89_code
def yX11_isSoundBooks : MethodName := ⟨RX11, "isSoundBooks", "()Z"⟩
abbrev cX11_crew : ByteArray := prog_1_method_90_code
def yX11_crew : MethodName := ⟨RX11, "crew", "(III)I"⟩
abbrev cX11_crewIs : ByteArray := prog_1_method_91_code
def yX11_crewIs : MethodName := ⟨RX11, "crewIs", "(II)I"⟩
abbrev cX11_overtime : ByteArray := prog_1_method_92_code
def yX11_overtime : MethodName := ⟨RX11, "overtime", "(IZ)Z"⟩
abbrev cX11_leave : ByteArray := prog_1_method_93_code
def yX11_leave : MethodName := ⟨RX11, "leave", "(I)I"⟩
abbrev cX11_job : ByteArray := prog_1_method_94_code
def yX11_job : MethodName := ⟨RX11, "job", "(IIII)I"⟩
abbrev cX11_jobIs : ByteArray := prog_1_method_95_code
def yX11_jobIs : MethodName := ⟨RX11, "jobIs", "(II)I"⟩
abbrev cX11_dropJob : ByteArray := prog_1_method_96_code
def yX11_dropJob : MethodName := ⟨RX11, "dropJob", "(I)I"⟩
abbrev cX11_nextJob : ByteArray := prog_1_method_97_code
def yX11_nextJob : MethodName := ⟨RX11, "nextJob", "(I)I"⟩
abbrev cX11_order : ByteArray := prog_1_method_98_code
def yX11_order : MethodName := ⟨RX11, "order", "(II)I"⟩
abbrev cX11_least : ByteArray := prog_1_method_99_code
def yX11_least : MethodName := ⟨RX11, "least", "(II)I"⟩
abbrev cX11_storeIs : ByteArray := prog_1_method_100_code
def yX11_storeIs : MethodName := ⟨RX11, "storeIs", "(II)I"⟩
abbrev cX11_spent : ByteArray := prog_1_method_101_code
def yX11_spent : MethodName := ⟨RX11, "spent", "(I)J"⟩
abbrev cX11_isSoundCrews : ByteArray := prog_1_method_102_code
def yX11_isSoundCrews : MethodName := ⟨RX11, "isSoundCrews", "()Z"⟩
abbrev cX11_weather : ByteArray := prog_1_method_103_code
def yX11_weather : MethodName := ⟨RX11, "weather", "(III)I"⟩
abbrev cX11_draws : ByteArray := prog_1_method_104_code
def yX11_draws : MethodName := ⟨RX11, "draws", "(I)I"⟩
abbrev cX11_storm : ByteArray := prog_1_method_105_code
def yX11_storm : MethodName := ⟨RX11, "storm", "(II)I"⟩
abbrev cX11_alarm : ByteArray := prog_1_method_106_code
def yX11_alarm : MethodName := ⟨RX11, "alarm", "(Z)Z"⟩
abbrev cX11_weatherIs : ByteArray := prog_1_method_107_code
def yX11_weatherIs : MethodName := ⟨RX11, "weatherIs", "(I)I"⟩
abbrev cX11_stormIs : ByteArray := prog_1_method_108_code
def yX11_stormIs : MethodName := ⟨RX11, "stormIs", "(II)I"⟩
abbrev cX11_force : ByteArray := prog_1_method_109_code
def yX11_force : MethodName := ⟨RX11, "force", "(I)I"⟩
abbrev cX11_content : ByteArray := prog_1_method_110_code
def yX11_content : MethodName := ⟨RX11, "content", "()I"⟩
abbrev cX11_gain : ByteArray := prog_1_method_111_code
def yX11_gain : MethodName := ⟨RX11, "gain", "(II)I"⟩
abbrev cX11_mending : ByteArray := prog_1_method_112_code
def yX11_mending : MethodName := ⟨RX11, "mending", "(I)I"⟩
abbrev cX11_report : ByteArray := prog_1_method_113_code
def yX11_report : MethodName := ⟨RX11, "report", "(I)I"⟩
abbrev cX11_isSoundStorm : ByteArray := prog_1_method_114_code
def yX11_isSoundStorm : MethodName := ⟨RX11, "isSoundStorm", "()Z"⟩
abbrev cX11_needThing : ByteArray := prog_1_method_115_code
def yX11_needThing : MethodName := ⟨RX11, "needThing", "(Z)V"⟩
abbrev cX11_needRange : ByteArray := prog_1_method_116_code
def yX11_needRange : MethodName := ⟨RX11, "needRange", "(Z)V"⟩
abbrev cX11_needState : ByteArray := prog_1_method_117_code
def yX11_needState : MethodName := ⟨RX11, "needState", "(Z)V"⟩
abbrev cX11_isWithin : ByteArray := prog_1_method_118_code
def yX11_isWithin : MethodName := ⟨RX11, "isWithin", "(III)Z"⟩
abbrev cX11_isGood : ByteArray := prog_1_method_119_code
def yX11_isGood : MethodName := ⟨RX11, "isGood", "(I)Z"⟩
abbrev cX11_isStreet : ByteArray := prog_1_method_120_code
def yX11_isStreet : MethodName := ⟨RX11, "isStreet", "(I)Z"⟩
abbrev cX11_isCrossing : ByteArray := prog_1_method_121_code
def yX11_isCrossing : MethodName := ⟨RX11, "isCrossing", "(I)Z"⟩
abbrev cX11_isCustomer : ByteArray := prog_1_method_122_code
def yX11_isCustomer : MethodName := ⟨RX11, "isCustomer", "(I)Z"⟩
abbrev cX11_isCrew : ByteArray := prog_1_method_123_code
def yX11_isCrew : MethodName := ⟨RX11, "isCrew", "(I)Z"⟩
abbrev cX11_bit : ByteArray := prog_1_method_124_code
def yX11_bit : MethodName := ⟨RX11, "bit", "(Z)I"⟩
abbrev cX11_swap : ByteArray := prog_1_method_125_code
def yX11_swap : MethodName := ⟨RX11, "swap", "([III)I"⟩
abbrev cX11_whoStands : ByteArray := prog_1_method_126_code
def yX11_whoStands : MethodName := ⟨RX11, "whoStands", "([[III)I"⟩
abbrev cX11_tenthUp : ByteArray := prog_1_method_127_code
def yX11_tenthUp : MethodName := ⟨RX11, "tenthUp", "(I)I"⟩
abbrev cX11_copyRow : ByteArray := prog_1_method_128_code
def yX11_copyRow : MethodName := ⟨RX11, "copyRow", "([I[I)V"⟩
abbrev cX11_copyLongs : ByteArray := prog_1_method_129_code
def yX11_copyLongs : MethodName := ⟨RX11, "copyLongs", "([J[J)V"⟩
abbrev cX11_copyTable : ByteArray := prog_1_method_130_code
def yX11_copyTable : MethodName := ⟨RX11, "copyTable", "([[I[[I)V"⟩
abbrev cX11_copyLongTable : ByteArray := prog_1_method_131_code
def yX11_copyLongTable : MethodName := ⟨RX11, "copyLongTable", "([[J[[J)V"⟩
abbrev cX11_clearTable : ByteArray := prog_1_method_132_code
def yX11_clearTable : MethodName := ⟨RX11, "clearTable", "([[I)V"⟩
def RX12 : String := "UtilityWorksModel"
def TX12 : u_T := fun k => match k with
  | 0 => ("UtilityWorksModel", "s", "[I", true)
  | 1 => ("UtilityWorksModel", "l", "[J", true)
  | 2 => ("UtilityWorksModel", "was", "[I", true)
  | 3 => ("UtilityWorksModel", "hadBeen", "[J", true)
  | 4 => ("UtilityWorksModel", "image", "[I", true)
  | 5 => ("UtilityWorksModel", "imageLong", "[J", true)
  | 6 => ("UtilityWorksModel", "isKept", "[Z", true)
  | 7 => ("UtilityWorksModel", "reached", "[Z", true)
  | 8 => ("UtilityWorksModel", "thrown", "I", false)
  | 9 => ("UtilityWorksModel", "far", "[I", true)
  | 10 => ("UtilityWorksModel", "lineLeads", "[Z", true)
  | 11 => ("UtilityWorksModel", "lineTrips", "[Z", true)
  | 12 => ("UtilityWorksModel", "islandOf", "[I", true)
  | 13 => ("UtilityWorksModel", "plantGives", "[I", true)
  | 14 => ("UtilityWorksModel", "usersGet", "[I", true)
  | 15 => ("UtilityWorksModel", "lineFlow", "[I", true)
  | 16 => ("UtilityWorksModel", "wellPowered", "[Z", true)
  | 17 => ("UtilityWorksModel", "boilerPowered", "[Z", true)
  | 18 => ("UtilityWorksModel", "customerPowered", "[Z", true)
  | 19 => ("UtilityWorksModel", "powerGot", "[I", true)
  | 20 => ("UtilityWorksModel", "onThisSide", "[Z", true)
  | 21 => ("UtilityWorksModel", "leftThere", "I", false)
  | 22 => ("UtilityWorksModel", "gaveAll", "I", false)
  | 23 => ("UtilityWorksModel", "wellsGot", "I", false)
  | 24 => ("UtilityWorksModel", "boilersGot", "I", false)
  | 25 => ("UtilityWorksModel", "customersGot", "I", false)
  | 26 => ("UtilityWorksModel", "offLines", "[I", true)
  | 27 => ("UtilityWorksModel", "wFrom", "[I", true)
  | 28 => ("UtilityWorksModel", "wHead", "[I", true)
  | 29 => ("UtilityWorksModel", "wCan", "[I", true)
  | 30 => ("UtilityWorksModel", "wGave", "[I", true)
  | 31 => ("UtilityWorksModel", "wWant", "[I", true)
  | 32 => ("UtilityWorksModel", "wYet", "[I", true)
  | 33 => ("UtilityWorksModel", "wGets", "[I", true)
  | 34 => ("UtilityWorksModel", "wHoles", "[I", true)
  | 35 => ("UtilityWorksModel", "wLeaks", "[I", true)
  | 36 => ("UtilityWorksModel", "wBoilers", "[I", true)
  | 37 => ("UtilityWorksModel", "wCustomers", "[I", true)
  | 38 => ("UtilityWorksModel", "wFilled", "[I", true)
  | 39 => ("UtilityWorksModel", "wAlong", "[I", true)
  | 40 => ("UtilityWorksModel", "wDist", "[I", true)
  | 41 => ("UtilityWorksModel", "wPath", "[I", true)
  | 42 => ("UtilityWorksModel", "wAhead", "[I", true)
  | 43 => ("UtilityWorksModel", "boilerWet", "[Z", true)
  | 44 => ("UtilityWorksModel", "waterGot", "[I", true)
  | 45 => ("UtilityWorksModel", "waterShort", "[I", true)
  | 46 => ("UtilityWorksModel", "wBestSource", "I", false)
  | 47 => ("UtilityWorksModel", "wBestTarget", "I", false)
  | 48 => ("UtilityWorksModel", "wLeft", "I", false)
  | 49 => ("UtilityWorksModel", "hCan", "[I", true)
  | 50 => ("UtilityWorksModel", "hMade", "[I", true)
  | 51 => ("UtilityWorksModel", "hIn", "[I", true)
  | 52 => ("UtilityWorksModel", "hLost", "[I", true)
  | 53 => ("UtilityWorksModel", "hWant", "[I", true)
  | 54 => ("UtilityWorksModel", "hGets", "[I", true)
  | 55 => ("UtilityWorksModel", "hShort", "[I", true)
  | 56 => ("UtilityWorksModel", "hAhead", "[I", true)
  | 57 => ("UtilityWorksModel", "hDist", "[I", true)
  | 58 => ("UtilityWorksModel", "hMany", "[I", true)
  | 59 => ("UtilityWorksModel", "hPaths", "[I", true)
  | 60 => ("UtilityWorksModel", "heatGot", "[I", true)
  | 61 => ("UtilityWorksModel", "hBest", "I", false)
  | 62 => ("UtilityWorksModel", "hBestSends", "I", false)
  | 63 => ("UtilityWorksModel", "byRank", "[I", true)
  | 64 => ("UtilityWorksModel", "bItem", "[J", true)
  | 65 => ("UtilityWorksModel", "bRefund", "J", false)
  | 66 => ("UtilityWorksModel", "brokenGood", "[I", true)
  | 67 => ("UtilityWorksModel", "brokenStreet", "[I", true)
  | _ => ("UtilityWorksModel", "mended", "[I", true)
def tyX12 : Nat → FieldType := fun k => match k with
  | 0 => .array .int
  | 1 => .array .long
  | 2 => .array .int
  | 3 => .array .long
  | 4 => .array .int
  | 5 => .array .long
  | 6 => .array .boolean
  | 7 => .array .boolean
  | 8 => .int
  | 9 => .array .int
  | 10 => .array .boolean
  | 11 => .array .boolean
  | 12 => .array .int
  | 13 => .array .int
  | 14 => .array .int
  | 15 => .array .int
  | 16 => .array .boolean
  | 17 => .array .boolean
  | 18 => .array .boolean
  | 19 => .array .int
  | 20 => .array .boolean
  | 21 => .int
  | 22 => .int
  | 23 => .int
  | 24 => .int
  | 25 => .int
  | 26 => .array .int
  | 27 => .array .int
  | 28 => .array .int
  | 29 => .array .int
  | 30 => .array .int
  | 31 => .array .int
  | 32 => .array .int
  | 33 => .array .int
  | 34 => .array .int
  | 35 => .array .int
  | 36 => .array .int
  | 37 => .array .int
  | 38 => .array .int
  | 39 => .array .int
  | 40 => .array .int
  | 41 => .array .int
  | 42 => .array .int
  | 43 => .array .boolean
  | 44 => .array .int
  | 45 => .array .int
  | 46 => .int
  | 47 => .int
  | 48 => .int
  | 49 => .array .int
  | 50 => .array .int
  | 51 => .array .int
  | 52 => .array .int
  | 53 => .array .int
  | 54 => .array .int
  | 55 => .array .int
  | 56 => .array .int
  | 57 => .array .int
  | 58 => .array .int
  | 59 => .array .int
  | 60 => .array .int
  | 61 => .int
  | 62 => .int
  | 63 => .array .int
  | 64 => .array .long
  | 65 => .long
  | 66 => .array .int
  | 67 => .array .int
  | _ => .array .int
abbrev wsX120 : List Cond := u_ws RX12 TX12 69
theorem nmX12 : ∀ a, a < 69 → ∀ b, b < 69 → a ≠ b → (TX12 a).2.1 ≠ (TX12 b).2.1 := by decide +kernel
theorem tyX12_ok : ∀ k, k < 69 → parseFieldDescriptor (TX12 k).2.2.1 = some (tyX12 k) := by decide +kernel
abbrev cX12_init : ByteArray := prog_14_method_1_code
def yX12_init : MethodName := ⟨RX12, "<init>", "()V"⟩
abbrev cX12_thrown : ByteArray := prog_14_method_2_code
def yX12_thrown : MethodName := ⟨RX12, "thrown", "()I"⟩
abbrev cX12_fails : ByteArray := prog_14_method_3_code
def yX12_fails : MethodName := ⟨RX12, "fails", "(ZI)Z"⟩
abbrev cX12_well : ByteArray := prog_14_method_4_code
def yX12_well : MethodName := ⟨RX12, "well", "()V"⟩
abbrev cX12_in : ByteArray := prog_14_method_5_code
def yX12_in : MethodName := ⟨RX12, "in", "(III)Z"⟩
abbrev cX12_isGood : ByteArray := prog_14_method_6_code
def yX12_isGood : MethodName := ⟨RX12, "isGood", "(I)Z"⟩
abbrev cX12_isCrossing : ByteArray := prog_14_method_7_code
def yX12_isCrossing : MethodName := ⟨RX12, "isCrossing", "(I)Z"⟩
abbrev cX12_isStreet : ByteArray := prog_14_method_8_code
def yX12_isStreet : MethodName := ⟨RX12, "isStreet", "(I)Z"⟩
abbrev cX12_tLay : ByteArray := prog_14_method_9_code
def yX12_tLay : MethodName := ⟨RX12, "tLay", "(III)V"⟩
abbrev cX12_tFirst : ByteArray := prog_14_method_10_code
def yX12_tFirst : MethodName := ⟨RX12, "tFirst", "()V"⟩
abbrev cX12_saves : ByteArray := prog_14_method_11_code
def yX12_saves : MethodName := ⟨RX12, "saves", "()V"⟩
abbrev cX12_restores : ByteArray := prog_14_method_12_code
def yX12_restores : MethodName := ⟨RX12, "restores", "()V"⟩
abbrev cX12_low : ByteArray := prog_14_method_13_code
def yX12_low : MethodName := ⟨RX12, "low", "(I)I"⟩
abbrev cX12_high : ByteArray := prog_14_method_14_code
def yX12_high : MethodName := ⟨RX12, "high", "(I)I"⟩
abbrev cX12_streetBetween : ByteArray := prog_14_method_15_code
def yX12_streetBetween : MethodName := ⟨RX12, "streetBetween", "(II)I"⟩
abbrev cX12_link : ByteArray := prog_14_method_16_code
def yX12_link : MethodName := ⟨RX12, "link", "(II)I"⟩
abbrev cX12_hasLink : ByteArray := prog_14_method_17_code
def yX12_hasLink : MethodName := ⟨RX12, "hasLink", "(II)Z"⟩
abbrev cX12_boundOf : ByteArray := prog_14_method_18_code
def yX12_boundOf : MethodName := ⟨RX12, "boundOf", "(II)I"⟩
abbrev cX12_isFine : ByteArray := prog_14_method_19_code
def yX12_isFine : MethodName := ⟨RX12, "isFine", "(II)Z"⟩
abbrev cX12_isOn : ByteArray := prog_14_method_20_code
def yX12_isOn : MethodName := ⟨RX12, "isOn", "(II)Z"⟩
abbrev cX12_leads : ByteArray := prog_14_method_21_code
def yX12_leads : MethodName := ⟨RX12, "leads", "(II)Z"⟩
abbrev cX12_reachFrom : ByteArray := prog_14_method_22_code
def yX12_reachFrom : MethodName := ⟨RX12, "reachFrom", "(III)V"⟩
abbrev cX12_closesRing : ByteArray := prog_14_method_23_code
def yX12_closesRing : MethodName := ⟨RX12, "closesRing", "(I)Z"⟩
abbrev cX12_makeFine : ByteArray := prog_14_method_24_code
def yX12_makeFine : MethodName := ⟨RX12, "makeFine", "(II)V"⟩
abbrev cX12_makeLead : ByteArray := prog_14_method_25_code
def yX12_makeLead : MethodName := ⟨RX12, "makeLead", "(II)V"⟩
abbrev cX12_turnsOff : ByteArray := prog_14_method_26_code
def yX12_turnsOff : MethodName := ⟨RX12, "turnsOff", "(II)V"⟩
abbrev cX12_breakLink : ByteArray := prog_14_method_27_code
def yX12_breakLink : MethodName := ⟨RX12, "breakLink", "(II)V"⟩
abbrev cX12_layLink : ByteArray := prog_14_method_28_code
def yX12_layLink : MethodName := ⟨RX12, "layLink", "(III)V"⟩
abbrev cX12_day : ByteArray := prog_14_method_29_code
def yX12_day : MethodName := ⟨RX12, "day", "()I"⟩
abbrev cX12_heightOf : ByteArray := prog_14_method_30_code
def yX12_heightOf : MethodName := ⟨RX12, "heightOf", "(I)I"⟩
abbrev cX12_linkIs : ByteArray := prog_14_method_31_code
def yX12_linkIs : MethodName := ⟨RX12, "linkIs", "(III)I"⟩
abbrev cX12_turn : ByteArray := prog_14_method_32_code
def yX12_turn : MethodName := ⟨RX12, "turn", "(IIZ)Z"⟩
abbrev cX12_bound : ByteArray := prog_14_method_33_code
def yX12_bound : MethodName := ⟨RX12, "bound", "(III)I"⟩
abbrev cX12_linksOf : ByteArray := prog_14_method_34_code
def yX12_linksOf : MethodName := ⟨RX12, "linksOf", "(IZ)I"⟩
abbrev cX12_lay : ByteArray := prog_14_method_35_code
def yX12_lay : MethodName := ⟨RX12, "lay", "(III)I"⟩
abbrev cX12_breaks : ByteArray := prog_14_method_36_code
def yX12_breaks : MethodName := ⟨RX12, "breaks", "(II)Z"⟩
abbrev cX12_joined : ByteArray := prog_14_method_37_code
def yX12_joined : MethodName := ⟨RX12, "joined", "(III)Z"⟩
abbrev cX12_dayGoes : ByteArray := prog_14_method_38_code
def yX12_dayGoes : MethodName := ⟨RX12, "dayGoes", "()V"⟩
abbrev cX12_pass : ByteArray := prog_14_method_39_code
def yX12_pass : MethodName := ⟨RX12, "pass", "(I)I"⟩
abbrev cX12_keep : ByteArray := prog_14_method_40_code
def yX12_keep : MethodName := ⟨RX12, "keep", "(I)I"⟩
abbrev cX12_bring : ByteArray := prog_14_method_41_code
def yX12_bring : MethodName := ⟨RX12, "bring", "(I)I"⟩
abbrev cX12_count : ByteArray := prog_14_method_42_code
def yX12_count : MethodName := ⟨RX12, "count", "(I)I"⟩
abbrev cX12_isSound : ByteArray := prog_14_method_43_code
def yX12_isSound : MethodName := ⟨RX12, "isSound", "()Z"⟩
abbrev cX12_sFirst : ByteArray := prog_14_method_44_code
def yX12_sFirst : MethodName := ⟨RX12, "sFirst", "()V"⟩
abbrev cX12_permitCell : ByteArray := prog_14_method_45_code
def yX12_permitCell : MethodName := ⟨RX12, "permitCell", "(II)I"⟩
abbrev cX12_isPermit : ByteArray := prog_14_method_46_code
def yX12_isPermit : MethodName := ⟨RX12, "isPermit", "(I)Z"⟩
abbrev cX12_holdsOn : ByteArray := prog_14_method_47_code
def yX12_holdsOn : MethodName := ⟨RX12, "holdsOn", "(III)Z"⟩
abbrev cX12_permitOn : ByteArray := prog_14_method_48_code
def yX12_permitOn : MethodName := ⟨RX12, "permitOn", "(II)I"⟩
abbrev cX12_permits : ByteArray := prog_14_method_49_code
def yX12_permits : MethodName := ⟨RX12, "permits", "(II)Z"⟩
abbrev cX12_isDug : ByteArray := prog_14_method_50_code
def yX12_isDug : MethodName := ⟨RX12, "isDug", "(I)Z"⟩
abbrev cX12_digs : ByteArray := prog_14_method_51_code
def yX12_digs : MethodName := ⟨RX12, "digs", "(I)V"⟩
abbrev cX12_fills : ByteArray := prog_14_method_52_code
def yX12_fills : MethodName := ⟨RX12, "fills", "(I)V"⟩
abbrev cX12_isClosed : ByteArray := prog_14_method_53_code
def yX12_isClosed : MethodName := ⟨RX12, "isClosed", "(I)Z"⟩
abbrev cX12_height : ByteArray := prog_14_method_54_code
def yX12_height : MethodName := ⟨RX12, "height", "(II)I"⟩
abbrev cX12_surface : ByteArray := prog_14_method_55_code
def yX12_surface : MethodName := ⟨RX12, "surface", "(II)I"⟩
abbrev cX12_market : ByteArray := prog_14_method_56_code
def yX12_market : MethodName := ⟨RX12, "market", "(II)I"⟩
abbrev cX12_isTaken : ByteArray := prog_14_method_57_code
def yX12_isTaken : MethodName := ⟨RX12, "isTaken", "(III)Z"⟩
abbrev cX12_isMarket : ByteArray := prog_14_method_58_code
def yX12_isMarket : MethodName := ⟨RX12, "isMarket", "(III)Z"⟩
abbrev cX12_reason : ByteArray := prog_14_method_59_code
def yX12_reason : MethodName := ⟨RX12, "reason", "(III)I"⟩
abbrev cX12_may : ByteArray := prog_14_method_60_code
def yX12_may : MethodName := ⟨RX12, "may", "(III)I"⟩
abbrev cX12_firstFree : ByteArray := prog_14_method_61_code
def yX12_firstFree : MethodName := ⟨RX12, "firstFree", "(II)I"⟩
abbrev cX12_freePermit : ByteArray := prog_14_method_62_code
def yX12_freePermit : MethodName := ⟨RX12, "freePermit", "()I"⟩
abbrev cX12_permit : ByteArray := prog_14_method_63_code
def yX12_permit : MethodName := ⟨RX12, "permit", "(IIII)I"⟩
abbrev cX12_share : ByteArray := prog_14_method_64_code
def yX12_share : MethodName := ⟨RX12, "share", "(II)I"⟩
abbrev cX12_drop : ByteArray := prog_14_method_65_code
def yX12_drop : MethodName := ⟨RX12, "drop", "(I)I"⟩
abbrev cX12_permitIs : ByteArray := prog_14_method_66_code
def yX12_permitIs : MethodName := ⟨RX12, "permitIs", "(II)I"⟩
abbrev cX12_hire : ByteArray := prog_14_method_67_code
def yX12_hire : MethodName := ⟨RX12, "hire", "(IZ)I"⟩
abbrev cX12_streetIs : ByteArray := prog_14_method_68_code
def yX12_streetIs : MethodName := ⟨RX12, "streetIs", "(II)I"⟩
abbrev cX12_farFrom : ByteArray := prog_14_method_69_code
def yX12_farFrom : MethodName := ⟨RX12, "farFrom", "(I)V"⟩
abbrev cX12_wayLength : ByteArray := prog_14_method_70_code
def yX12_wayLength : MethodName := ⟨RX12, "wayLength", "(II)I"⟩
abbrev cX12_nextTo : ByteArray := prog_14_method_71_code
def yX12_nextTo : MethodName := ⟨RX12, "nextTo", "(I)I"⟩
abbrev cX12_wayStep : ByteArray := prog_14_method_72_code
def yX12_wayStep : MethodName := ⟨RX12, "wayStep", "(III)I"⟩
abbrev cX12_way : ByteArray := prog_14_method_73_code
def yX12_way : MethodName := ⟨RX12, "way", "(II)I"⟩
abbrev cX12_wayIs : ByteArray := prog_14_method_74_code
def yX12_wayIs : MethodName := ⟨RX12, "wayIs", "(III)I"⟩
abbrev cX12_streetsDay : ByteArray := prog_14_method_75_code
def yX12_streetsDay : MethodName := ⟨RX12, "streetsDay", "()V"⟩
abbrev cX12_isSoundStreets : ByteArray := prog_14_method_76_code
def yX12_isSoundStreets : MethodName := ⟨RX12, "isSoundStreets", "()Z"⟩
abbrev cX12_pFirst : ByteArray := prog_14_method_77_code
def yX12_pFirst : MethodName := ⟨RX12, "pFirst", "()V"⟩
abbrev cX12_isPlant : ByteArray := prog_14_method_78_code
def yX12_isPlant : MethodName := ⟨RX12, "isPlant", "(I)Z"⟩
abbrev cX12_plantCell : ByteArray := prog_14_method_79_code
def yX12_plantCell : MethodName := ⟨RX12, "plantCell", "(II)I"⟩
abbrev cX12_capacityAt : ByteArray := prog_14_method_80_code
def yX12_capacityAt : MethodName := ⟨RX12, "capacityAt", "(I)I"⟩
abbrev cX12_customerNeeds : ByteArray := prog_14_method_81_code
def yX12_customerNeeds : MethodName := ⟨RX12, "customerNeeds", "(I)I"⟩
abbrev cX12_boilerNeeds : ByteArray := prog_14_method_82_code
def yX12_boilerNeeds : MethodName := ⟨RX12, "boilerNeeds", "(I)I"⟩
abbrev cX12_layIslands : ByteArray := prog_14_method_83_code
def yX12_layIslands : MethodName := ⟨RX12, "layIslands", "()V"⟩
abbrev cX12_gets : ByteArray := prog_14_method_84_code
def yX12_gets : MethodName := ⟨RX12, "gets", "(III)Z"⟩
abbrev cX12_dealIsland : ByteArray := prog_14_method_85_code
def yX12_dealIsland : MethodName := ⟨RX12, "dealIsland", "(I)V"⟩
abbrev cX12_sideOf : ByteArray := prog_14_method_86_code
def yX12_sideOf : MethodName := ⟨RX12, "sideOf", "(I)V"⟩
abbrev cX12_balanceOf : ByteArray := prog_14_method_87_code
def yX12_balanceOf : MethodName := ⟨RX12, "balanceOf", "(I)I"⟩
abbrev cX12_size : ByteArray := prog_14_method_88_code
def yX12_size : MethodName := ⟨RX12, "size", "(I)I"⟩
abbrev cX12_dealOnce : ByteArray := prog_14_method_89_code
def yX12_dealOnce : MethodName := ⟨RX12, "dealOnce", "()V"⟩
abbrev cX12_tripping : ByteArray := prog_14_method_90_code
def yX12_tripping : MethodName := ⟨RX12, "tripping", "()I"⟩
abbrev cX12_sumUp : ByteArray := prog_14_method_91_code
def yX12_sumUp : MethodName := ⟨RX12, "sumUp", "()V"⟩
abbrev cX12_powerDeal : ByteArray := prog_14_method_92_code
def yX12_powerDeal : MethodName := ⟨RX12, "powerDeal", "()V"⟩
abbrev cX12_isShed : ByteArray := prog_14_method_93_code
def yX12_isShed : MethodName := ⟨RX12, "isShed", "(I)Z"⟩
abbrev cX12_powerDay : ByteArray := prog_14_method_94_code
def yX12_powerDay : MethodName := ⟨RX12, "powerDay", "()V"⟩
abbrev cX12_plant : ByteArray := prog_14_method_95_code
def yX12_plant : MethodName := ⟨RX12, "plant", "(II)I"⟩
abbrev cX12_start : ByteArray := prog_14_method_96_code
def yX12_start : MethodName := ⟨RX12, "start", "(IZ)Z"⟩
abbrev cX12_plantIs : ByteArray := prog_14_method_97_code
def yX12_plantIs : MethodName := ⟨RX12, "plantIs", "(II)I"⟩
abbrev cX12_needsAt : ByteArray := prog_14_method_98_code
def yX12_needsAt : MethodName := ⟨RX12, "needsAt", "(I)I"⟩
abbrev cX12_powerAt : ByteArray := prog_14_method_99_code
def yX12_powerAt : MethodName := ⟨RX12, "powerAt", "(II)I"⟩
abbrev cX12_lineIs : ByteArray := prog_14_method_100_code
def yX12_lineIs : MethodName := ⟨RX12, "lineIs", "(II)I"⟩
abbrev cX12_flowAnew : ByteArray := prog_14_method_101_code
def yX12_flowAnew : MethodName := ⟨RX12, "flowAnew", "(I)I"⟩
abbrev cX12_shed : ByteArray := prog_14_method_102_code
def yX12_shed : MethodName := ⟨RX12, "shed", "(I)I"⟩
abbrev cX12_dark : ByteArray := prog_14_method_103_code
def yX12_dark : MethodName := ⟨RX12, "dark", "(I)I"⟩
abbrev cX12_layOff : ByteArray := prog_14_method_104_code
def yX12_layOff : MethodName := ⟨RX12, "layOff", "()I"⟩
abbrev cX12_worthOf : ByteArray := prog_14_method_105_code
def yX12_worthOf : MethodName := ⟨RX12, "worthOf", "(II)I"⟩
abbrev cX12_onesOf : ByteArray := prog_14_method_106_code
def yX12_onesOf : MethodName := ⟨RX12, "onesOf", "(I)I"⟩
abbrev cX12_switching : ByteArray := prog_14_method_107_code
def yX12_switching : MethodName := ⟨RX12, "switching", "(I)I"⟩
abbrev cX12_powerSum : ByteArray := prog_14_method_108_code
def yX12_powerSum : MethodName := ⟨RX12, "powerSum", "(I)J"⟩
abbrev cX12_isSoundPower : ByteArray := prog_14_method_109_code
def yX12_isSoundPower : MethodName := ⟨RX12, "isSoundPower", "()Z"⟩
abbrev cX12_wBegin : ByteArray := prog_14_method_110_code
def yX12_wBegin : MethodName := ⟨RX12, "wBegin", "()V"⟩
abbrev cX12_wPut : ByteArray := prog_14_method_111_code
def yX12_wPut : MethodName := ⟨RX12, "wPut", "(IIIII)V"⟩
abbrev cX12_wells : ByteArray := prog_14_method_112_code
def yX12_wells : MethodName := ⟨RX12, "wells", "()I"⟩
abbrev cX12_wellAt : ByteArray := prog_14_method_113_code
def yX12_wellAt : MethodName := ⟨RX12, "wellAt", "(I)I"⟩
abbrev cX12_wellNeeds : ByteArray := prog_14_method_114_code
def yX12_wellNeeds : MethodName := ⟨RX12, "wellNeeds", "(I)I"⟩
abbrev cX12_wIsHole : ByteArray := prog_14_method_115_code
def yX12_wIsHole : MethodName := ⟨RX12, "wIsHole", "(I)Z"⟩
abbrev cX12_wHoleAt : ByteArray := prog_14_method_116_code
def yX12_wHoleAt : MethodName := ⟨RX12, "wHoleAt", "(I)I"⟩
abbrev cX12_wRoom : ByteArray := prog_14_method_117_code
def yX12_wRoom : MethodName := ⟨RX12, "wRoom", "(I)I"⟩
abbrev cX12_wOpen : ByteArray := prog_14_method_118_code
def yX12_wOpen : MethodName := ⟨RX12, "wOpen", "(II)Z"⟩
abbrev cX12_wReach : ByteArray := prog_14_method_119_code
def yX12_wReach : MethodName := ⟨RX12, "wReach", "(II)V"⟩
abbrev cX12_wWay : ByteArray := prog_14_method_120_code
def yX12_wWay : MethodName := ⟨RX12, "wWay", "(III)I"⟩
abbrev cX12_wFind : ByteArray := prog_14_method_121_code
def yX12_wFind : MethodName := ⟨RX12, "wFind", "(II)Z"⟩
abbrev cX12_wSend : ByteArray := prog_14_method_122_code
def yX12_wSend : MethodName := ⟨RX12, "wSend", "()I"⟩
abbrev cX12_wClear : ByteArray := prog_14_method_123_code
def yX12_wClear : MethodName := ⟨RX12, "wClear", "()V"⟩
abbrev cX12_wTankHead : ByteArray := prog_14_method_124_code
def yX12_wTankHead : MethodName := ⟨RX12, "wTankHead", "(I)I"⟩
abbrev cX12_wWellHead : ByteArray := prog_14_method_125_code
def yX12_wWellHead : MethodName := ⟨RX12, "wWellHead", "(I)I"⟩
abbrev cX12_wSources : ByteArray := prog_14_method_126_code
def yX12_wSources : MethodName := ⟨RX12, "wSources", "()V"⟩
abbrev cX12_wTake : ByteArray := prog_14_method_127_code
def yX12_wTake : MethodName := ⟨RX12, "wTake", "(I)I"⟩
abbrev cX12_wNeed : ByteArray := prog_14_method_128_code
def yX12_wNeed : MethodName := ⟨RX12, "wNeed", "(I)I"⟩
abbrev cX12_wWants : ByteArray := prog_14_method_129_code
def yX12_wWants : MethodName := ⟨RX12, "wWants", "()V"⟩
abbrev cX12_wShare : ByteArray := prog_14_method_130_code
def yX12_wShare : MethodName := ⟨RX12, "wShare", "(I)V"⟩
abbrev cX12_waterDeal : ByteArray := prog_14_method_131_code
def yX12_waterDeal : MethodName := ⟨RX12, "waterDeal", "()V"⟩
abbrev cX12_wNext : ByteArray := prog_14_method_132_code
def yX12_wNext : MethodName := ⟨RX12, "wNext", "()V"⟩
abbrev cX12_wStrain : ByteArray := prog_14_method_133_code
def yX12_wStrain : MethodName := ⟨RX12, "wStrain", "(I)V"⟩
abbrev cX12_waterDay : ByteArray := prog_14_method_134_code
def yX12_waterDay : MethodName := ⟨RX12, "waterDay", "()V"⟩
abbrev cX12_wLevelThen : ByteArray := prog_14_method_135_code
def yX12_wLevelThen : MethodName := ⟨RX12, "wLevelThen", "(I)I"⟩
abbrev cX12_wAtCrossing : ByteArray := prog_14_method_136_code
def yX12_wAtCrossing : MethodName := ⟨RX12, "wAtCrossing", "(III)I"⟩
abbrev cX12_well_ : ByteArray := prog_14_method_137_code
def yX12_well_ : MethodName := ⟨RX12, "well", "(III)I"⟩
abbrev cX12_tank : ByteArray := prog_14_method_138_code
def yX12_tank : MethodName := ⟨RX12, "tank", "(III)I"⟩
abbrev cX12_pump : ByteArray := prog_14_method_139_code
def yX12_pump : MethodName := ⟨RX12, "pump", "(IZ)Z"⟩
abbrev cX12_reserve : ByteArray := prog_14_method_140_code
def yX12_reserve : MethodName := ⟨RX12, "reserve", "(II)I"⟩
abbrev cX12_wIsPipe : ByteArray := prog_14_method_141_code
def yX12_wIsPipe : MethodName := ⟨RX12, "wIsPipe", "(I)Z"⟩
abbrev cX12_leak : ByteArray := prog_14_method_142_code
def yX12_leak : MethodName := ⟨RX12, "leak", "(II)I"⟩
abbrev cX12_wellIs : ByteArray := prog_14_method_143_code
def yX12_wellIs : MethodName := ⟨RX12, "wellIs", "(II)I"⟩
abbrev cX12_tankIs : ByteArray := prog_14_method_144_code
def yX12_tankIs : MethodName := ⟨RX12, "tankIs", "(II)I"⟩
abbrev cX12_pipeIs : ByteArray := prog_14_method_145_code
def yX12_pipeIs : MethodName := ⟨RX12, "pipeIs", "(II)I"⟩
abbrev cX12_waterAt : ByteArray := prog_14_method_146_code
def yX12_waterAt : MethodName := ⟨RX12, "waterAt", "(II)I"⟩
abbrev cX12_wAnew : ByteArray := prog_14_method_147_code
def yX12_wAnew : MethodName := ⟨RX12, "wAnew", "(I)I"⟩
abbrev cX12_waterAnew : ByteArray := prog_14_method_148_code
def yX12_waterAnew : MethodName := ⟨RX12, "waterAnew", "(I)I"⟩
abbrev cX12_waterWithout : ByteArray := prog_14_method_149_code
def yX12_waterWithout : MethodName := ⟨RX12, "waterWithout", "(I)I"⟩
abbrev cX12_fire : ByteArray := prog_14_method_150_code
def yX12_fire : MethodName := ⟨RX12, "fire", "(II)I"⟩
abbrev cX12_wLevels : ByteArray := prog_14_method_151_code
def yX12_wLevels : MethodName := ⟨RX12, "wLevels", "()J"⟩
abbrev cX12_waterSum : ByteArray := prog_14_method_152_code
def yX12_waterSum : MethodName := ⟨RX12, "waterSum", "(I)J"⟩
abbrev cX12_isSoundWater : ByteArray := prog_14_method_153_code
def yX12_isSoundWater : MethodName := ⟨RX12, "isSoundWater", "()Z"⟩
abbrev cX12_hBegin : ByteArray := prog_14_method_154_code
def yX12_hBegin : MethodName := ⟨RX12, "hBegin", "()V"⟩
abbrev cX12_boilers : ByteArray := prog_14_method_155_code
def yX12_boilers : MethodName := ⟨RX12, "boilers", "()I"⟩
abbrev cX12_boilerAt : ByteArray := prog_14_method_156_code
def yX12_boilerAt : MethodName := ⟨RX12, "boilerAt", "(I)I"⟩
abbrev cX12_isLit : ByteArray := prog_14_method_157_code
def yX12_isLit : MethodName := ⟨RX12, "isLit", "(I)Z"⟩
abbrev cX12_boilerNeedsWater : ByteArray := prog_14_method_158_code
def yX12_boilerNeedsWater : MethodName := ⟨RX12, "boilerNeedsWater", "(I)I"⟩
abbrev cX12_cold : ByteArray := prog_14_method_159_code
def yX12_cold : MethodName := ⟨RX12, "cold", "()I"⟩
abbrev cX12_heatWants : ByteArray := prog_14_method_160_code
def yX12_heatWants : MethodName := ⟨RX12, "heatWants", "(I)I"⟩
abbrev cX12_hLacks : ByteArray := prog_14_method_161_code
def yX12_hLacks : MethodName := ⟨RX12, "hLacks", "(I)I"⟩
abbrev cX12_hMost : ByteArray := prog_14_method_162_code
def yX12_hMost : MethodName := ⟨RX12, "hMost", "(I)I"⟩
abbrev cX12_hLoss : ByteArray := prog_14_method_163_code
def yX12_hLoss : MethodName := ⟨RX12, "hLoss", "(I)I"⟩
abbrev cX12_hRoom : ByteArray := prog_14_method_164_code
def yX12_hRoom : MethodName := ⟨RX12, "hRoom", "(I)I"⟩
abbrev cX12_hReach : ByteArray := prog_14_method_165_code
def yX12_hReach : MethodName := ⟨RX12, "hReach", "(I)V"⟩
abbrev cX12_hNextFrom : ByteArray := prog_14_method_166_code
def yX12_hNextFrom : MethodName := ⟨RX12, "hNextFrom", "(I)I"⟩
abbrev cX12_hLay : ByteArray := prog_14_method_167_code
def yX12_hLay : MethodName := ⟨RX12, "hLay", "(II)V"⟩
abbrev cX12_hOut : ByteArray := prog_14_method_168_code
def yX12_hOut : MethodName := ⟨RX12, "hOut", "(II)I"⟩
abbrev cX12_hSends : ByteArray := prog_14_method_169_code
def yX12_hSends : MethodName := ⟨RX12, "hSends", "(II)I"⟩
abbrev cX12_hFind : ByteArray := prog_14_method_170_code
def yX12_hFind : MethodName := ⟨RX12, "hFind", "()Z"⟩
abbrev cX12_hSend : ByteArray := prog_14_method_171_code
def yX12_hSend : MethodName := ⟨RX12, "hSend", "()V"⟩
abbrev cX12_heatDeal : ByteArray := prog_14_method_172_code
def yX12_heatDeal : MethodName := ⟨RX12, "heatDeal", "()V"⟩
abbrev cX12_hShare : ByteArray := prog_14_method_173_code
def yX12_hShare : MethodName := ⟨RX12, "hShare", "(I)V"⟩
abbrev cX12_hNext : ByteArray := prog_14_method_174_code
def yX12_hNext : MethodName := ⟨RX12, "hNext", "()V"⟩
abbrev cX12_hFuel : ByteArray := prog_14_method_175_code
def yX12_hFuel : MethodName := ⟨RX12, "hFuel", "(I)I"⟩
abbrev cX12_hWarmth : ByteArray := prog_14_method_176_code
def yX12_hWarmth : MethodName := ⟨RX12, "hWarmth", "(I)V"⟩
abbrev cX12_heatDay : ByteArray := prog_14_method_177_code
def yX12_heatDay : MethodName := ⟨RX12, "heatDay", "()V"⟩
abbrev cX12_boiler : ByteArray := prog_14_method_178_code
def yX12_boiler : MethodName := ⟨RX12, "boiler", "(II)I"⟩
abbrev cX12_coal : ByteArray := prog_14_method_179_code
def yX12_coal : MethodName := ⟨RX12, "coal", "(II)I"⟩
abbrev cX12_light : ByteArray := prog_14_method_180_code
def yX12_light : MethodName := ⟨RX12, "light", "(IZ)Z"⟩
abbrev cX12_boilerIs : ByteArray := prog_14_method_181_code
def yX12_boilerIs : MethodName := ⟨RX12, "boilerIs", "(II)I"⟩
abbrev cX12_hIsMain : ByteArray := prog_14_method_182_code
def yX12_hIsMain : MethodName := ⟨RX12, "hIsMain", "(I)Z"⟩
abbrev cX12_mainIs : ByteArray := prog_14_method_183_code
def yX12_mainIs : MethodName := ⟨RX12, "mainIs", "(II)I"⟩
abbrev cX12_heatAt : ByteArray := prog_14_method_184_code
def yX12_heatAt : MethodName := ⟨RX12, "heatAt", "(II)I"⟩
abbrev cX12_warmth : ByteArray := prog_14_method_185_code
def yX12_warmth : MethodName := ⟨RX12, "warmth", "(I)I"⟩
abbrev cX12_lasts : ByteArray := prog_14_method_186_code
def yX12_lasts : MethodName := ⟨RX12, "lasts", "(I)I"⟩
abbrev cX12_hLostAnew : ByteArray := prog_14_method_187_code
def yX12_hLostAnew : MethodName := ⟨RX12, "hLostAnew", "()I"⟩
abbrev cX12_lostAnew : ByteArray := prog_14_method_188_code
def yX12_lostAnew : MethodName := ⟨RX12, "lostAnew", "()I"⟩
abbrev cX12_heatWithout : ByteArray := prog_14_method_189_code
def yX12_heatWithout : MethodName := ⟨RX12, "heatWithout", "(I)I"⟩
abbrev cX12_heatSum : ByteArray := prog_14_method_190_code
def yX12_heatSum : MethodName := ⟨RX12, "heatSum", "(I)J"⟩
abbrev cX12_isSoundHeat : ByteArray := prog_14_method_191_code
def yX12_isSoundHeat : MethodName := ⟨RX12, "isSoundHeat", "()Z"⟩
abbrev cX12_mC : ByteArray := prog_14_method_192_code
def yX12_mC : MethodName := ⟨RX12, "mC", "(II)I"⟩
abbrev cX12_mM : ByteArray := prog_14_method_193_code
def yX12_mM : MethodName := ⟨RX12, "mM", "(III)I"⟩
abbrev cX12_mAdd : ByteArray := prog_14_method_194_code
def yX12_mAdd : MethodName := ⟨RX12, "mAdd", "(II)V"⟩
abbrev cX12_mOld : ByteArray := prog_14_method_195_code
def yX12_mOld : MethodName := ⟨RX12, "mOld", "(IIIII)V"⟩
abbrev cX12_mBegin : ByteArray := prog_14_method_196_code
def yX12_mBegin : MethodName := ⟨RX12, "mBegin", "()V"⟩
abbrev cX12_customers : ByteArray := prog_14_method_197_code
def yX12_customers : MethodName := ⟨RX12, "customers", "()I"⟩
abbrev cX12_isCustomer : ByteArray := prog_14_method_198_code
def yX12_isCustomer : MethodName := ⟨RX12, "isCustomer", "(I)Z"⟩
abbrev cX12_isMGood : ByteArray := prog_14_method_199_code
def yX12_isMGood : MethodName := ⟨RX12, "isMGood", "(I)Z"⟩
abbrev cX12_customerAt : ByteArray := prog_14_method_200_code
def yX12_customerAt : MethodName := ⟨RX12, "customerAt", "(I)I"⟩
abbrev cX12_rankOf : ByteArray := prog_14_method_201_code
def yX12_rankOf : MethodName := ⟨RX12, "rankOf", "(I)I"⟩
abbrev cX12_needOf : ByteArray := prog_14_method_202_code
def yX12_needOf : MethodName := ⟨RX12, "needOf", "(II)I"⟩
abbrev cX12_isConnected : ByteArray := prog_14_method_203_code
def yX12_isConnected : MethodName := ⟨RX12, "isConnected", "(II)Z"⟩
abbrev cX12_ranks : ByteArray := prog_14_method_204_code
def yX12_ranks : MethodName := ⟨RX12, "ranks", "()V"⟩
abbrev cX12_mWants : ByteArray := prog_14_method_205_code
def yX12_mWants : MethodName := ⟨RX12, "mWants", "(II)I"⟩
abbrev cX12_mTurn : ByteArray := prog_14_method_206_code
def yX12_mTurn : MethodName := ⟨RX12, "mTurn", "(III)V"⟩
abbrev cX12_metersDay : ByteArray := prog_14_method_207_code
def yX12_metersDay : MethodName := ⟨RX12, "metersDay", "()V"⟩
abbrev cX12_mRate : ByteArray := prog_14_method_208_code
def yX12_mRate : MethodName := ⟨RX12, "mRate", "(II)I"⟩
abbrev cX12_mRead : ByteArray := prog_14_method_209_code
def yX12_mRead : MethodName := ⟨RX12, "mRead", "(II)I"⟩
abbrev cX12_mGuess : ByteArray := prog_14_method_210_code
def yX12_mGuess : MethodName := ⟨RX12, "mGuess", "(II)I"⟩
abbrev cX12_mEstimate : ByteArray := prog_14_method_211_code
def yX12_mEstimate : MethodName := ⟨RX12, "mEstimate", "(II)I"⟩
abbrev cX12_mLoss : ByteArray := prog_14_method_212_code
def yX12_mLoss : MethodName := ⟨RX12, "mLoss", "(I)I"⟩
abbrev cX12_customer : ByteArray := prog_14_method_213_code
def yX12_customer : MethodName := ⟨RX12, "customer", "(II)I"⟩
abbrev cX12_mNone : ByteArray := prog_14_method_214_code
def yX12_mNone : MethodName := ⟨RX12, "mNone", "(II)Z"⟩
abbrev cX12_need : ByteArray := prog_14_method_215_code
def yX12_need : MethodName := ⟨RX12, "need", "(III)I"⟩
abbrev cX12_connect : ByteArray := prog_14_method_216_code
def yX12_connect : MethodName := ⟨RX12, "connect", "(IIZ)Z"⟩
abbrev cX12_customerIs : ByteArray := prog_14_method_217_code
def yX12_customerIs : MethodName := ⟨RX12, "customerIs", "(II)I"⟩
abbrev cX12_meterIs : ByteArray := prog_14_method_218_code
def yX12_meterIs : MethodName := ⟨RX12, "meterIs", "(III)I"⟩
abbrev cX12_unseal : ByteArray := prog_14_method_219_code
def yX12_unseal : MethodName := ⟨RX12, "unseal", "(II)I"⟩
abbrev cX12_slow : ByteArray := prog_14_method_220_code
def yX12_slow : MethodName := ⟨RX12, "slow", "(III)I"⟩
abbrev cX12_seal : ByteArray := prog_14_method_221_code
def yX12_seal : MethodName := ⟨RX12, "seal", "(II)I"⟩
abbrev cX12_read : ByteArray := prog_14_method_222_code
def yX12_read : MethodName := ⟨RX12, "read", "(II)I"⟩
abbrev cX12_estimate : ByteArray := prog_14_method_223_code
def yX12_estimate : MethodName := ⟨RX12, "estimate", "(II)I"⟩
abbrev cX12_loss : ByteArray := prog_14_method_224_code
def yX12_loss : MethodName := ⟨RX12, "loss", "(I)I"⟩
abbrev cX12_suspect : ByteArray := prog_14_method_225_code
def yX12_suspect : MethodName := ⟨RX12, "suspect", "(I)I"⟩
abbrev cX12_isSoundMeters : ByteArray := prog_14_method_226_code
def yX12_isSoundMeters : MethodName := ⟨RX12, "isSoundMeters", "()Z"⟩
abbrev cX12_bC : ByteArray := prog_14_method_227_code
def yX12_bC : MethodName := ⟨RX12, "bC", "(II)I"⟩
abbrev cX12_bB : ByteArray := prog_14_method_228_code
def yX12_bB : MethodName := ⟨RX12, "bB", "(III)I"⟩
abbrev cX12_bTariff : ByteArray := prog_14_method_229_code
def yX12_bTariff : MethodName := ⟨RX12, "bTariff", "(IIIII)V"⟩
abbrev cX12_bBegin : ByteArray := prog_14_method_230_code
def yX12_bBegin : MethodName := ⟨RX12, "bBegin", "()V"⟩
abbrev cX12_money : ByteArray := prog_14_method_231_code
def yX12_money : MethodName := ⟨RX12, "money", "()J"⟩
abbrev cX12_spends : ByteArray := prog_14_method_232_code
def yX12_spends : MethodName := ⟨RX12, "spends", "(I)V"⟩
abbrev cX12_bRight : ByteArray := prog_14_method_233_code
def yX12_bRight : MethodName := ⟨RX12, "bRight", "(II)V"⟩
abbrev cX12_bBack : ByteArray := prog_14_method_234_code
def yX12_bBack : MethodName := ⟨RX12, "bBack", "(II)V"⟩
abbrev cX12_bCutFrom : ByteArray := prog_14_method_235_code
def yX12_bCutFrom : MethodName := ⟨RX12, "bCutFrom", "(I)I"⟩
abbrev cX12_bCuts : ByteArray := prog_14_method_236_code
def yX12_bCuts : MethodName := ⟨RX12, "bCuts", "(I)V"⟩
abbrev cX12_bConnects : ByteArray := prog_14_method_237_code
def yX12_bConnects : MethodName := ⟨RX12, "bConnects", "(I)V"⟩
abbrev cX12_bOpen : ByteArray := prog_14_method_238_code
def yX12_bOpen : MethodName := ⟨RX12, "bOpen", "(I)J"⟩
abbrev cX12_bOwes : ByteArray := prog_14_method_239_code
def yX12_bOwes : MethodName := ⟨RX12, "bOwes", "(I)J"⟩
abbrev cX12_bPays : ByteArray := prog_14_method_240_code
def yX12_bPays : MethodName := ⟨RX12, "bPays", "(IJ)J"⟩
abbrev cX12_bEndPlan : ByteArray := prog_14_method_241_code
def yX12_bEndPlan : MethodName := ⟨RX12, "bEndPlan", "(I)V"⟩
abbrev cX12_bDue : ByteArray := prog_14_method_242_code
def yX12_bDue : MethodName := ⟨RX12, "bDue", "(II)J"⟩
abbrev cX12_bPlanDay : ByteArray := prog_14_method_243_code
def yX12_bPlanDay : MethodName := ⟨RX12, "bPlanDay", "(I)V"⟩
abbrev cX12_bInterest : ByteArray := prog_14_method_244_code
def yX12_bInterest : MethodName := ⟨RX12, "bInterest", "(I)V"⟩
abbrev cX12_bGuesses : ByteArray := prog_14_method_245_code
def yX12_bGuesses : MethodName := ⟨RX12, "bGuesses", "(II)Z"⟩
abbrev cX12_bReckon : ByteArray := prog_14_method_246_code
def yX12_bReckon : MethodName := ⟨RX12, "bReckon", "(I)J"⟩
abbrev cX12_bBill : ByteArray := prog_14_method_247_code
def yX12_bBill : MethodName := ⟨RX12, "bBill", "(I)V"⟩
abbrev cX12_bNotice : ByteArray := prog_14_method_248_code
def yX12_bNotice : MethodName := ⟨RX12, "bNotice", "(I)I"⟩
abbrev cX12_bNotices : ByteArray := prog_14_method_249_code
def yX12_bNotices : MethodName := ⟨RX12, "bNotices", "(I)V"⟩
abbrev cX12_booksDay : ByteArray := prog_14_method_250_code
def yX12_booksDay : MethodName := ⟨RX12, "booksDay", "()V"⟩
abbrev cX12_tariff : ByteArray := prog_14_method_251_code
def yX12_tariff : MethodName := ⟨RX12, "tariff", "(III)I"⟩
abbrev cX12_pay : ByteArray := prog_14_method_252_code
def yX12_pay : MethodName := ⟨RX12, "pay", "(II)J"⟩
abbrev cX12_owes : ByteArray := prog_14_method_253_code
def yX12_owes : MethodName := ⟨RX12, "owes", "(I)J"⟩
abbrev cX12_split : ByteArray := prog_14_method_254_code
def yX12_split : MethodName := ⟨RX12, "split", "(II)J"⟩
abbrev cX12_bNextDue : ByteArray := prog_14_method_255_code
def yX12_bNextDue : MethodName := ⟨RX12, "bNextDue", "(I)I"⟩
abbrev cX12_planIs : ByteArray := prog_14_method_256_code
def yX12_planIs : MethodName := ⟨RX12, "planIs", "(II)J"⟩
abbrev cX12_poor : ByteArray := prog_14_method_257_code
def yX12_poor : MethodName := ⟨RX12, "poor", "(IZ)Z"⟩
abbrev cX12_fund : ByteArray := prog_14_method_258_code
def yX12_fund : MethodName := ⟨RX12, "fund", "(I)J"⟩
abbrev cX12_bills : ByteArray := prog_14_method_259_code
def yX12_bills : MethodName := ⟨RX12, "bills", "(I)I"⟩
abbrev cX12_billIs : ByteArray := prog_14_method_260_code
def yX12_billIs : MethodName := ⟨RX12, "billIs", "(III)J"⟩
abbrev cX12_billNow : ByteArray := prog_14_method_261_code
def yX12_billNow : MethodName := ⟨RX12, "billNow", "(I)J"⟩
abbrev cX12_notice : ByteArray := prog_14_method_262_code
def yX12_notice : MethodName := ⟨RX12, "notice", "(II)I"⟩
abbrev cX12_bAllOwed : ByteArray := prog_14_method_263_code
def yX12_bAllOwed : MethodName := ⟨RX12, "bAllOwed", "()J"⟩
abbrev cX12_journal : ByteArray := prog_14_method_264_code
def yX12_journal : MethodName := ⟨RX12, "journal", "(I)J"⟩
abbrev cX12_isSoundBooks : ByteArray := prog_14_method_265_code
def yX12_isSoundBooks : MethodName := ⟨RX12, "isSoundBooks", "()Z"⟩
abbrev cX12_cC : ByteArray := prog_14_method_266_code
def yX12_cC : MethodName := ⟨RX12, "cC", "(II)I"⟩
abbrev cX12_cJ : ByteArray := prog_14_method_267_code
def yX12_cJ : MethodName := ⟨RX12, "cJ", "(II)I"⟩
abbrev cX12_cHire : ByteArray := prog_14_method_268_code
def yX12_cHire : MethodName := ⟨RX12, "cHire", "(III)V"⟩
abbrev cX12_cFirst : ByteArray := prog_14_method_269_code
def yX12_cFirst : MethodName := ⟨RX12, "cFirst", "(I)I"⟩
abbrev cX12_cBegin : ByteArray := prog_14_method_270_code
def yX12_cBegin : MethodName := ⟨RX12, "cBegin", "()V"⟩
abbrev cX12_cPrice : ByteArray := prog_14_method_271_code
def yX12_cPrice : MethodName := ⟨RX12, "cPrice", "(I)I"⟩
abbrev cX12_stock : ByteArray := prog_14_method_272_code
def yX12_stock : MethodName := ⟨RX12, "stock", "(I)I"⟩
abbrev cX12_takes : ByteArray := prog_14_method_273_code
def yX12_takes : MethodName := ⟨RX12, "takes", "(II)V"⟩
abbrev cX12_cOpen : ByteArray := prog_14_method_274_code
def yX12_cOpen : MethodName := ⟨RX12, "cOpen", "()I"⟩
abbrev cX12_cMay : ByteArray := prog_14_method_275_code
def yX12_cMay : MethodName := ⟨RX12, "cMay", "()Z"⟩
abbrev cX12_cHas : ByteArray := prog_14_method_276_code
def yX12_cHas : MethodName := ⟨RX12, "cHas", "(II)Z"⟩
abbrev cX12_cAdd : ByteArray := prog_14_method_277_code
def yX12_cAdd : MethodName := ⟨RX12, "cAdd", "(IIII)V"⟩
abbrev cX12_cSpot : ByteArray := prog_14_method_278_code
def yX12_cSpot : MethodName := ⟨RX12, "cSpot", "(I)I"⟩
abbrev cX12_cSkill : ByteArray := prog_14_method_279_code
def yX12_cSkill : MethodName := ⟨RX12, "cSkill", "(I)I"⟩
abbrev cX12_cSpells : ByteArray := prog_14_method_280_code
def yX12_cSpells : MethodName := ⟨RX12, "cSpells", "(I)I"⟩
abbrev cX12_cFar : ByteArray := prog_14_method_281_code
def yX12_cFar : MethodName := ⟨RX12, "cFar", "(II)I"⟩
abbrev cX12_cCan : ByteArray := prog_14_method_282_code
def yX12_cCan : MethodName := ⟨RX12, "cCan", "(II)Z"⟩
abbrev cX12_cBest : ByteArray := prog_14_method_283_code
def yX12_cBest : MethodName := ⟨RX12, "cBest", "(I)I"⟩
abbrev cX12_cLeaves : ByteArray := prog_14_method_284_code
def yX12_cLeaves : MethodName := ⟨RX12, "cLeaves", "(I)V"⟩
abbrev cX12_cTakesJob : ByteArray := prog_14_method_285_code
def yX12_cTakesJob : MethodName := ⟨RX12, "cTakesJob", "(I)V"⟩
abbrev cX12_cMoves : ByteArray := prog_14_method_286_code
def yX12_cMoves : MethodName := ⟨RX12, "cMoves", "(I)V"⟩
abbrev cX12_cNothing : ByteArray := prog_14_method_287_code
def yX12_cNothing : MethodName := ⟨RX12, "cNothing", "(I)Z"⟩
abbrev cX12_cLacks : ByteArray := prog_14_method_288_code
def yX12_cLacks : MethodName := ⟨RX12, "cLacks", "(II)Z"⟩
abbrev cX12_cEffect : ByteArray := prog_14_method_289_code
def yX12_cEffect : MethodName := ⟨RX12, "cEffect", "(I)V"⟩
abbrev cX12_cEnds : ByteArray := prog_14_method_290_code
def yX12_cEnds : MethodName := ⟨RX12, "cEnds", "(I)V"⟩
abbrev cX12_cSpell : ByteArray := prog_14_method_291_code
def yX12_cSpell : MethodName := ⟨RX12, "cSpell", "(I)V"⟩
abbrev cX12_crewsDay : ByteArray := prog_14_method_292_code
def yX12_crewsDay : MethodName := ⟨RX12, "crewsDay", "()V"⟩
abbrev cX12_cComing : ByteArray := prog_14_method_293_code
def yX12_cComing : MethodName := ⟨RX12, "cComing", "(I)I"⟩
abbrev cX12_cOrder : ByteArray := prog_14_method_294_code
def yX12_cOrder : MethodName := ⟨RX12, "cOrder", "(II)V"⟩
abbrev cX12_cComes : ByteArray := prog_14_method_295_code
def yX12_cComes : MethodName := ⟨RX12, "cComes", "(II)V"⟩
abbrev cX12_storesDay : ByteArray := prog_14_method_296_code
def yX12_storesDay : MethodName := ⟨RX12, "storesDay", "()V"⟩
abbrev cX12_isCCrew : ByteArray := prog_14_method_297_code
def yX12_isCCrew : MethodName := ⟨RX12, "isCCrew", "(I)Z"⟩
abbrev cX12_crew : ByteArray := prog_14_method_298_code
def yX12_crew : MethodName := ⟨RX12, "crew", "(III)I"⟩
abbrev cX12_crewIs : ByteArray := prog_14_method_299_code
def yX12_crewIs : MethodName := ⟨RX12, "crewIs", "(II)I"⟩
abbrev cX12_overtime : ByteArray := prog_14_method_300_code
def yX12_overtime : MethodName := ⟨RX12, "overtime", "(IZ)Z"⟩
abbrev cX12_leave : ByteArray := prog_14_method_301_code
def yX12_leave : MethodName := ⟨RX12, "leave", "(I)I"⟩
abbrev cX12_job : ByteArray := prog_14_method_302_code
def yX12_job : MethodName := ⟨RX12, "job", "(IIII)I"⟩
abbrev cX12_jobIs : ByteArray := prog_14_method_303_code
def yX12_jobIs : MethodName := ⟨RX12, "jobIs", "(II)I"⟩
abbrev cX12_dropJob : ByteArray := prog_14_method_304_code
def yX12_dropJob : MethodName := ⟨RX12, "dropJob", "(I)I"⟩
abbrev cX12_nextJob : ByteArray := prog_14_method_305_code
def yX12_nextJob : MethodName := ⟨RX12, "nextJob", "(I)I"⟩
abbrev cX12_isCPart : ByteArray := prog_14_method_306_code
def yX12_isCPart : MethodName := ⟨RX12, "isCPart", "(I)Z"⟩
abbrev cX12_order : ByteArray := prog_14_method_307_code
def yX12_order : MethodName := ⟨RX12, "order", "(II)I"⟩
abbrev cX12_least : ByteArray := prog_14_method_308_code
def yX12_least : MethodName := ⟨RX12, "least", "(II)I"⟩
abbrev cX12_storeIs : ByteArray := prog_14_method_309_code
def yX12_storeIs : MethodName := ⟨RX12, "storeIs", "(II)I"⟩
abbrev cX12_spent : ByteArray := prog_14_method_310_code
def yX12_spent : MethodName := ⟨RX12, "spent", "(I)J"⟩
abbrev cX12_isSoundCrews : ByteArray := prog_14_method_311_code
def yX12_isSoundCrews : MethodName := ⟨RX12, "isSoundCrews", "()Z"⟩
abbrev cX12_xFirst : ByteArray := prog_14_method_312_code
def yX12_xFirst : MethodName := ⟨RX12, "xFirst", "()V"⟩
abbrev cX12_temperature : ByteArray := prog_14_method_313_code
def yX12_temperature : MethodName := ⟨RX12, "temperature", "()I"⟩
abbrev cX12_hasAlarm : ByteArray := prog_14_method_314_code
def yX12_hasAlarm : MethodName := ⟨RX12, "hasAlarm", "()Z"⟩
abbrev cX12_reports : ByteArray := prog_14_method_315_code
def yX12_reports : MethodName := ⟨RX12, "reports", "(II)V"⟩
abbrev cX12_stormCell : ByteArray := prog_14_method_316_code
def yX12_stormCell : MethodName := ⟨RX12, "stormCell", "(II)I"⟩
abbrev cX12_isStorm : ByteArray := prog_14_method_317_code
def yX12_isStorm : MethodName := ⟨RX12, "isStorm", "(I)Z"⟩
abbrev cX12_isOver : ByteArray := prog_14_method_318_code
def yX12_isOver : MethodName := ⟨RX12, "isOver", "(II)Z"⟩
abbrev cX12_forceAt : ByteArray := prog_14_method_319_code
def yX12_forceAt : MethodName := ⟨RX12, "forceAt", "(I)I"⟩
abbrev cX12_drawn : ByteArray := prog_14_method_320_code
def yX12_drawn : MethodName := ⟨RX12, "drawn", "()I"⟩
abbrev cX12_rainNext : ByteArray := prog_14_method_321_code
def yX12_rainNext : MethodName := ⟨RX12, "rainNext", "()I"⟩
abbrev cX12_isWet : ByteArray := prog_14_method_322_code
def yX12_isWet : MethodName := ⟨RX12, "isWet", "(II)Z"⟩
abbrev cX12_draw : ByteArray := prog_14_method_323_code
def yX12_draw : MethodName := ⟨RX12, "draw", "()V"⟩
abbrev cX12_stormsGo : ByteArray := prog_14_method_324_code
def yX12_stormsGo : MethodName := ⟨RX12, "stormsGo", "()V"⟩
abbrev cX12_tears : ByteArray := prog_14_method_325_code
def yX12_tears : MethodName := ⟨RX12, "tears", "(I)Z"⟩
abbrev cX12_linesBreak : ByteArray := prog_14_method_326_code
def yX12_linesBreak : MethodName := ⟨RX12, "linesBreak", "()V"⟩
abbrev cX12_weatherDay : ByteArray := prog_14_method_327_code
def yX12_weatherDay : MethodName := ⟨RX12, "weatherDay", "()V"⟩
abbrev cX12_weather : ByteArray := prog_14_method_328_code
def yX12_weather : MethodName := ⟨RX12, "weather", "(III)I"⟩
abbrev cX12_draws : ByteArray := prog_14_method_329_code
def yX12_draws : MethodName := ⟨RX12, "draws", "(I)I"⟩
abbrev cX12_storms : ByteArray := prog_14_method_330_code
def yX12_storms : MethodName := ⟨RX12, "storms", "()I"⟩
abbrev cX12_storm : ByteArray := prog_14_method_331_code
def yX12_storm : MethodName := ⟨RX12, "storm", "(II)I"⟩
abbrev cX12_alarm : ByteArray := prog_14_method_332_code
def yX12_alarm : MethodName := ⟨RX12, "alarm", "(Z)Z"⟩
abbrev cX12_weatherIs : ByteArray := prog_14_method_333_code
def yX12_weatherIs : MethodName := ⟨RX12, "weatherIs", "(I)I"⟩
abbrev cX12_stormIs : ByteArray := prog_14_method_334_code
def yX12_stormIs : MethodName := ⟨RX12, "stormIs", "(II)I"⟩
abbrev cX12_force : ByteArray := prog_14_method_335_code
def yX12_force : MethodName := ⟨RX12, "force", "(I)I"⟩
abbrev cX12_isContent : ByteArray := prog_14_method_336_code
def yX12_isContent : MethodName := ⟨RX12, "isContent", "(I)Z"⟩
abbrev cX12_contentNow : ByteArray := prog_14_method_337_code
def yX12_contentNow : MethodName := ⟨RX12, "contentNow", "()I"⟩
abbrev cX12_content : ByteArray := prog_14_method_338_code
def yX12_content : MethodName := ⟨RX12, "content", "()I"⟩
abbrev cX12_gain : ByteArray := prog_14_method_339_code
def yX12_gain : MethodName := ⟨RX12, "gain", "(II)I"⟩
abbrev cX12_layBroken : ByteArray := prog_14_method_340_code
def yX12_layBroken : MethodName := ⟨RX12, "layBroken", "()I"⟩
abbrev cX12_contentWith : ByteArray := prog_14_method_341_code
def yX12_contentWith : MethodName := ⟨RX12, "contentWith", "(III)I"⟩
abbrev cX12_take : ByteArray := prog_14_method_342_code
def yX12_take : MethodName := ⟨RX12, "take", "(IIIIII)I"⟩
abbrev cX12_mendBest : ByteArray := prog_14_method_343_code
def yX12_mendBest : MethodName := ⟨RX12, "mendBest", "()I"⟩
abbrev cX12_mending : ByteArray := prog_14_method_344_code
def yX12_mending : MethodName := ⟨RX12, "mending", "(I)I"⟩
abbrev cX12_report : ByteArray := prog_14_method_345_code
def yX12_report : MethodName := ⟨RX12, "report", "(I)I"⟩
abbrev cX12_isSoundStorm : ByteArray := prog_14_method_346_code
def yX12_isSoundStorm : MethodName := ⟨RX12, "isSoundStorm", "()Z"⟩
def RJx145de : String := "java/io/Serializable"
def TJx145de : u_T := fun k => match k with
  | _ => ("", "", "", false)
def tyJx145de : Nat → FieldType := fun k => match k with
  | _ => .int
abbrev wsJx145de0 : List Cond := u_ws RJx145de TJx145de 0
theorem nmJx145de : ∀ a, a < 0 → ∀ b, b < 0 → a ≠ b → (TJx145de a).2.1 ≠ (TJx145de b).2.1 := by decide +kernel
theorem tyJx145de_ok : ∀ k, k < 0 → parseFieldDescriptor (TJx145de k).2.2.1 = some (tyJx145de k) := by decide +kernel
def RJ6 : String := "java/lang/Integer"
def TJ6 : u_T := fun k => match k with
  | _ => ("", "", "", false)
def tyJ6 : Nat → FieldType := fun k => match k with
  | _ => .int
abbrev wsJ60 : List Cond := u_ws RJ6 TJ6 0
theorem nmJ6 : ∀ a, a < 0 → ∀ b, b < 0 → a ≠ b → (TJ6 a).2.1 ≠ (TJ6 b).2.1 := by decide +kernel
theorem tyJ6_ok : ∀ k, k < 0 → parseFieldDescriptor (TJ6 k).2.2.1 = some (tyJ6 k) := by decide +kernel
abbrev cJ6_bitCount_0f7a4 : ByteArray := prog_19_method_49_code
def yJ6_bitCount_0f7a4 : MethodName := ⟨RJ6, "bitCount", "(I)I"⟩
def RJ9 : String := "java/lang/Math"
def TJ9 : u_T := fun k => match k with
  | _ => ("", "", "", false)
def tyJ9 : Nat → FieldType := fun k => match k with
  | _ => .int
abbrev wsJ90 : List Cond := u_ws RJ9 TJ9 0
theorem nmJ9 : ∀ a, a < 0 → ∀ b, b < 0 → a ≠ b → (TJ9 a).2.1 ≠ (TJ9 b).2.1 := by decide +kernel
theorem tyJ9_ok : ∀ k, k < 0 → parseFieldDescriptor (TJ9 k).2.2.1 = some (tyJ9 k) := by decide +kernel
abbrev cJ9_floorMod_7cf53 : ByteArray := prog_20_method_50_code
def yJ9_floorMod_7cf53 : MethodName := ⟨RJ9, "floorMod", "(II)I"⟩
abbrev cJ9_abs_0f7a4 : ByteArray := prog_20_method_59_code
def yJ9_abs_0f7a4 : MethodName := ⟨RJ9, "abs", "(I)I"⟩
abbrev cJ9_max_7cf53 : ByteArray := prog_20_method_65_code
def yJ9_max_7cf53 : MethodName := ⟨RJ9, "max", "(II)I"⟩
abbrev cJ9_max_f86c9 : ByteArray := prog_20_method_66_code
def yJ9_max_f86c9 : MethodName := ⟨RJ9, "max", "(JJ)J"⟩
abbrev cJ9_min_7cf53 : ByteArray := prog_20_method_69_code
def yJ9_min_7cf53 : MethodName := ⟨RJ9, "min", "(II)I"⟩
abbrev cJ9_min_f86c9 : ByteArray := prog_20_method_70_code
def yJ9_min_f86c9 : MethodName := ⟨RJ9, "min", "(JJ)J"⟩
def RJ10 : String := "java/lang/System"
def TJ10 : u_T := fun k => match k with
  | _ => ("", "", "", false)
def tyJ10 : Nat → FieldType := fun k => match k with
  | _ => .int
abbrev wsJ100 : List Cond := u_ws RJ10 TJ10 0
theorem nmJ10 : ∀ a, a < 0 → ∀ b, b < 0 → a ≠ b → (TJ10 a).2.1 ≠ (TJ10 b).2.1 := by decide +kernel
theorem tyJ10_ok : ∀ k, k < 0 → parseFieldDescriptor (TJ10 k).2.2.1 = some (tyJ10 k) := by decide +kernel
def RJ7 : String := "java/util/Arrays"
def TJ7 : u_T := fun k => match k with
  | _ => ("", "", "", false)
def tyJ7 : Nat → FieldType := fun k => match k with
  | _ => .int
abbrev wsJ70 : List Cond := u_ws RJ7 TJ7 0
theorem nmJ7 : ∀ a, a < 0 → ∀ b, b < 0 → a ≠ b → (TJ7 a).2.1 ≠ (TJ7 b).2.1 := by decide +kernel
theorem tyJ7_ok : ∀ k, k < 0 → parseFieldDescriptor (TJ7 k).2.2.1 = some (tyJ7 k) := by decide +kernel
abbrev cJ7_fill_53178 : ByteArray := prog_24_method_103_code
def yJ7_fill_53178 : MethodName := ⟨RJ7, "fill", "([II)V"⟩
def RL : String := "UtilityWorksLaw"
abbrev cL_linkIs : ByteArray := method_3_code
def yL_linkIs : MethodName := ⟨RL, "linkIs", "(LUtilityWorks;III[J)I"⟩
abbrev cL_turn : ByteArray := method_4_code
def yL_turn : MethodName := ⟨RL, "turn", "(LUtilityWorks;IIZ[J)I"⟩
abbrev cL_bound : ByteArray := method_5_code
def yL_bound : MethodName := ⟨RL, "bound", "(LUtilityWorks;III[J)I"⟩
abbrev cL_lay : ByteArray := method_6_code
def yL_lay : MethodName := ⟨RL, "lay", "(LUtilityWorks;III[J)I"⟩
abbrev cL_breaks : ByteArray := method_7_code
def yL_breaks : MethodName := ⟨RL, "breaks", "(LUtilityWorks;II[J)I"⟩
abbrev cL_joined : ByteArray := method_8_code
def yL_joined : MethodName := ⟨RL, "joined", "(LUtilityWorks;III[J)I"⟩
abbrev cL_pass : ByteArray := method_9_code
def yL_pass : MethodName := ⟨RL, "pass", "(LUtilityWorks;I[J)I"⟩
abbrev cL_keep : ByteArray := method_10_code
def yL_keep : MethodName := ⟨RL, "keep", "(LUtilityWorks;I[J)I"⟩
abbrev cL_bring : ByteArray := method_11_code
def yL_bring : MethodName := ⟨RL, "bring", "(LUtilityWorks;I[J)I"⟩
abbrev cL_count : ByteArray := method_12_code
def yL_count : MethodName := ⟨RL, "count", "(LUtilityWorks;I[J)I"⟩
abbrev cL_height : ByteArray := method_13_code
def yL_height : MethodName := ⟨RL, "height", "(LUtilityWorks;II[J)I"⟩
abbrev cL_surface : ByteArray := method_14_code
def yL_surface : MethodName := ⟨RL, "surface", "(LUtilityWorks;II[J)I"⟩
abbrev cL_market : ByteArray := method_15_code
def yL_market : MethodName := ⟨RL, "market", "(LUtilityWorks;II[J)I"⟩
abbrev cL_may : ByteArray := method_16_code
def yL_may : MethodName := ⟨RL, "may", "(LUtilityWorks;III[J)I"⟩
abbrev cL_firstFree : ByteArray := method_17_code
def yL_firstFree : MethodName := ⟨RL, "firstFree", "(LUtilityWorks;II[J)I"⟩
abbrev cL_permit : ByteArray := method_18_code
def yL_permit : MethodName := ⟨RL, "permit", "(LUtilityWorks;IIII[J)I"⟩
abbrev cL_share : ByteArray := method_19_code
def yL_share : MethodName := ⟨RL, "share", "(LUtilityWorks;II[J)I"⟩
abbrev cL_drop : ByteArray := method_20_code
def yL_drop : MethodName := ⟨RL, "drop", "(LUtilityWorks;I[J)I"⟩
abbrev cL_permitIs : ByteArray := method_21_code
def yL_permitIs : MethodName := ⟨RL, "permitIs", "(LUtilityWorks;II[J)I"⟩
abbrev cL_hire : ByteArray := method_22_code
def yL_hire : MethodName := ⟨RL, "hire", "(LUtilityWorks;IZ[J)I"⟩
abbrev cL_streetIs : ByteArray := method_23_code
def yL_streetIs : MethodName := ⟨RL, "streetIs", "(LUtilityWorks;II[J)I"⟩
abbrev cL_way : ByteArray := method_24_code
def yL_way : MethodName := ⟨RL, "way", "(LUtilityWorks;II[J)I"⟩
abbrev cL_wayIs : ByteArray := method_25_code
def yL_wayIs : MethodName := ⟨RL, "wayIs", "(LUtilityWorks;III[J)I"⟩
abbrev cL_plant : ByteArray := method_26_code
def yL_plant : MethodName := ⟨RL, "plant", "(LUtilityWorks;II[J)I"⟩
abbrev cL_start : ByteArray := method_27_code
def yL_start : MethodName := ⟨RL, "start", "(LUtilityWorks;IZ[J)I"⟩
abbrev cL_plantIs : ByteArray := method_28_code
def yL_plantIs : MethodName := ⟨RL, "plantIs", "(LUtilityWorks;II[J)I"⟩
abbrev cL_powerAt : ByteArray := method_29_code
def yL_powerAt : MethodName := ⟨RL, "powerAt", "(LUtilityWorks;II[J)I"⟩
abbrev cL_lineIs : ByteArray := method_30_code
def yL_lineIs : MethodName := ⟨RL, "lineIs", "(LUtilityWorks;II[J)I"⟩
abbrev cL_flowAnew : ByteArray := method_31_code
def yL_flowAnew : MethodName := ⟨RL, "flowAnew", "(LUtilityWorks;I[J)I"⟩
abbrev cL_shed : ByteArray := method_32_code
def yL_shed : MethodName := ⟨RL, "shed", "(LUtilityWorks;I[J)I"⟩
abbrev cL_dark : ByteArray := method_33_code
def yL_dark : MethodName := ⟨RL, "dark", "(LUtilityWorks;I[J)I"⟩
abbrev cL_switching : ByteArray := method_34_code
def yL_switching : MethodName := ⟨RL, "switching", "(LUtilityWorks;I[J)I"⟩
abbrev cL_powerSum : ByteArray := method_35_code
def yL_powerSum : MethodName := ⟨RL, "powerSum", "(LUtilityWorks;I[J)I"⟩
abbrev cL_well : ByteArray := method_36_code
def yL_well : MethodName := ⟨RL, "well", "(LUtilityWorks;III[J)I"⟩
abbrev cL_tank : ByteArray := method_37_code
def yL_tank : MethodName := ⟨RL, "tank", "(LUtilityWorks;III[J)I"⟩
abbrev cL_pump : ByteArray := method_38_code
def yL_pump : MethodName := ⟨RL, "pump", "(LUtilityWorks;IZ[J)I"⟩
abbrev cL_reserve : ByteArray := method_39_code
def yL_reserve : MethodName := ⟨RL, "reserve", "(LUtilityWorks;II[J)I"⟩
abbrev cL_leak : ByteArray := method_40_code
def yL_leak : MethodName := ⟨RL, "leak", "(LUtilityWorks;II[J)I"⟩
abbrev cL_wellIs : ByteArray := method_41_code
def yL_wellIs : MethodName := ⟨RL, "wellIs", "(LUtilityWorks;II[J)I"⟩
abbrev cL_tankIs : ByteArray := method_42_code
def yL_tankIs : MethodName := ⟨RL, "tankIs", "(LUtilityWorks;II[J)I"⟩
abbrev cL_pipeIs : ByteArray := method_43_code
def yL_pipeIs : MethodName := ⟨RL, "pipeIs", "(LUtilityWorks;II[J)I"⟩
abbrev cL_waterAt : ByteArray := method_44_code
def yL_waterAt : MethodName := ⟨RL, "waterAt", "(LUtilityWorks;II[J)I"⟩
abbrev cL_waterAnew : ByteArray := method_45_code
def yL_waterAnew : MethodName := ⟨RL, "waterAnew", "(LUtilityWorks;I[J)I"⟩
abbrev cL_waterWithout : ByteArray := method_46_code
def yL_waterWithout : MethodName := ⟨RL, "waterWithout", "(LUtilityWorks;I[J)I"⟩
abbrev cL_fire : ByteArray := method_47_code
def yL_fire : MethodName := ⟨RL, "fire", "(LUtilityWorks;II[J)I"⟩
abbrev cL_waterSum : ByteArray := method_48_code
def yL_waterSum : MethodName := ⟨RL, "waterSum", "(LUtilityWorks;I[J)I"⟩
abbrev cL_boiler : ByteArray := method_49_code
def yL_boiler : MethodName := ⟨RL, "boiler", "(LUtilityWorks;II[J)I"⟩
abbrev cL_coal : ByteArray := method_50_code
def yL_coal : MethodName := ⟨RL, "coal", "(LUtilityWorks;II[J)I"⟩
abbrev cL_light : ByteArray := method_51_code
def yL_light : MethodName := ⟨RL, "light", "(LUtilityWorks;IZ[J)I"⟩
abbrev cL_boilerIs : ByteArray := method_52_code
def yL_boilerIs : MethodName := ⟨RL, "boilerIs", "(LUtilityWorks;II[J)I"⟩
abbrev cL_mainIs : ByteArray := method_53_code
def yL_mainIs : MethodName := ⟨RL, "mainIs", "(LUtilityWorks;II[J)I"⟩
abbrev cL_heatAt : ByteArray := method_54_code
def yL_heatAt : MethodName := ⟨RL, "heatAt", "(LUtilityWorks;II[J)I"⟩
abbrev cL_warmth : ByteArray := method_55_code
def yL_warmth : MethodName := ⟨RL, "warmth", "(LUtilityWorks;I[J)I"⟩
abbrev cL_lasts : ByteArray := method_56_code
def yL_lasts : MethodName := ⟨RL, "lasts", "(LUtilityWorks;I[J)I"⟩
abbrev cL_heatWithout : ByteArray := method_57_code
def yL_heatWithout : MethodName := ⟨RL, "heatWithout", "(LUtilityWorks;I[J)I"⟩
abbrev cL_heatSum : ByteArray := method_58_code
def yL_heatSum : MethodName := ⟨RL, "heatSum", "(LUtilityWorks;I[J)I"⟩
abbrev cL_customer : ByteArray := method_59_code
def yL_customer : MethodName := ⟨RL, "customer", "(LUtilityWorks;II[J)I"⟩
abbrev cL_need : ByteArray := method_60_code
def yL_need : MethodName := ⟨RL, "need", "(LUtilityWorks;III[J)I"⟩
abbrev cL_connect : ByteArray := method_61_code
def yL_connect : MethodName := ⟨RL, "connect", "(LUtilityWorks;IIZ[J)I"⟩
abbrev cL_customerIs : ByteArray := method_62_code
def yL_customerIs : MethodName := ⟨RL, "customerIs", "(LUtilityWorks;II[J)I"⟩
abbrev cL_meterIs : ByteArray := method_63_code
def yL_meterIs : MethodName := ⟨RL, "meterIs", "(LUtilityWorks;III[J)I"⟩
abbrev cL_unseal : ByteArray := method_64_code
def yL_unseal : MethodName := ⟨RL, "unseal", "(LUtilityWorks;II[J)I"⟩
abbrev cL_slow : ByteArray := method_65_code
def yL_slow : MethodName := ⟨RL, "slow", "(LUtilityWorks;III[J)I"⟩
abbrev cL_seal : ByteArray := method_66_code
def yL_seal : MethodName := ⟨RL, "seal", "(LUtilityWorks;II[J)I"⟩
abbrev cL_read : ByteArray := method_67_code
def yL_read : MethodName := ⟨RL, "read", "(LUtilityWorks;II[J)I"⟩
abbrev cL_estimate : ByteArray := method_68_code
def yL_estimate : MethodName := ⟨RL, "estimate", "(LUtilityWorks;II[J)I"⟩
abbrev cL_loss : ByteArray := method_69_code
def yL_loss : MethodName := ⟨RL, "loss", "(LUtilityWorks;I[J)I"⟩
abbrev cL_suspect : ByteArray := method_70_code
def yL_suspect : MethodName := ⟨RL, "suspect", "(LUtilityWorks;I[J)I"⟩
abbrev cL_tariff : ByteArray := method_71_code
def yL_tariff : MethodName := ⟨RL, "tariff", "(LUtilityWorks;III[J)I"⟩
abbrev cL_pay : ByteArray := method_72_code
def yL_pay : MethodName := ⟨RL, "pay", "(LUtilityWorks;II[J)I"⟩
abbrev cL_owes : ByteArray := method_73_code
def yL_owes : MethodName := ⟨RL, "owes", "(LUtilityWorks;I[J)I"⟩
abbrev cL_split : ByteArray := method_74_code
def yL_split : MethodName := ⟨RL, "split", "(LUtilityWorks;II[J)I"⟩
abbrev cL_planIs : ByteArray := method_75_code
def yL_planIs : MethodName := ⟨RL, "planIs", "(LUtilityWorks;II[J)I"⟩
abbrev cL_poor : ByteArray := method_76_code
def yL_poor : MethodName := ⟨RL, "poor", "(LUtilityWorks;IZ[J)I"⟩
abbrev cL_fund : ByteArray := method_77_code
def yL_fund : MethodName := ⟨RL, "fund", "(LUtilityWorks;I[J)I"⟩
abbrev cL_bills : ByteArray := method_78_code
def yL_bills : MethodName := ⟨RL, "bills", "(LUtilityWorks;I[J)I"⟩
abbrev cL_billIs : ByteArray := method_79_code
def yL_billIs : MethodName := ⟨RL, "billIs", "(LUtilityWorks;III[J)I"⟩
abbrev cL_billNow : ByteArray := method_80_code
def yL_billNow : MethodName := ⟨RL, "billNow", "(LUtilityWorks;I[J)I"⟩
abbrev cL_notice : ByteArray := method_81_code
def yL_notice : MethodName := ⟨RL, "notice", "(LUtilityWorks;II[J)I"⟩
abbrev cL_journal : ByteArray := method_82_code
def yL_journal : MethodName := ⟨RL, "journal", "(LUtilityWorks;I[J)I"⟩
abbrev cL_crew : ByteArray := method_83_code
def yL_crew : MethodName := ⟨RL, "crew", "(LUtilityWorks;III[J)I"⟩
abbrev cL_crewIs : ByteArray := method_84_code
def yL_crewIs : MethodName := ⟨RL, "crewIs", "(LUtilityWorks;II[J)I"⟩
abbrev cL_overtime : ByteArray := method_85_code
def yL_overtime : MethodName := ⟨RL, "overtime", "(LUtilityWorks;IZ[J)I"⟩
abbrev cL_leave : ByteArray := method_86_code
def yL_leave : MethodName := ⟨RL, "leave", "(LUtilityWorks;I[J)I"⟩
abbrev cL_job : ByteArray := method_87_code
def yL_job : MethodName := ⟨RL, "job", "(LUtilityWorks;IIII[J)I"⟩
abbrev cL_jobIs : ByteArray := method_88_code
def yL_jobIs : MethodName := ⟨RL, "jobIs", "(LUtilityWorks;II[J)I"⟩
abbrev cL_dropJob : ByteArray := method_89_code
def yL_dropJob : MethodName := ⟨RL, "dropJob", "(LUtilityWorks;I[J)I"⟩
abbrev cL_nextJob : ByteArray := method_90_code
def yL_nextJob : MethodName := ⟨RL, "nextJob", "(LUtilityWorks;I[J)I"⟩
abbrev cL_order : ByteArray := method_91_code
def yL_order : MethodName := ⟨RL, "order", "(LUtilityWorks;II[J)I"⟩
abbrev cL_least : ByteArray := method_92_code
def yL_least : MethodName := ⟨RL, "least", "(LUtilityWorks;II[J)I"⟩
abbrev cL_storeIs : ByteArray := method_93_code
def yL_storeIs : MethodName := ⟨RL, "storeIs", "(LUtilityWorks;II[J)I"⟩
abbrev cL_spent : ByteArray := method_94_code
def yL_spent : MethodName := ⟨RL, "spent", "(LUtilityWorks;I[J)I"⟩
abbrev cL_weather : ByteArray := method_95_code
def yL_weather : MethodName := ⟨RL, "weather", "(LUtilityWorks;III[J)I"⟩
abbrev cL_draws : ByteArray := method_96_code
def yL_draws : MethodName := ⟨RL, "draws", "(LUtilityWorks;I[J)I"⟩
abbrev cL_storm : ByteArray := method_97_code
def yL_storm : MethodName := ⟨RL, "storm", "(LUtilityWorks;II[J)I"⟩
abbrev cL_weatherIs : ByteArray := method_98_code
def yL_weatherIs : MethodName := ⟨RL, "weatherIs", "(LUtilityWorks;I[J)I"⟩
abbrev cL_stormIs : ByteArray := method_99_code
def yL_stormIs : MethodName := ⟨RL, "stormIs", "(LUtilityWorks;II[J)I"⟩
abbrev cL_force : ByteArray := method_100_code
def yL_force : MethodName := ⟨RL, "force", "(LUtilityWorks;I[J)I"⟩
abbrev cL_gain : ByteArray := method_101_code
def yL_gain : MethodName := ⟨RL, "gain", "(LUtilityWorks;II[J)I"⟩
abbrev cL_mending : ByteArray := method_102_code
def yL_mending : MethodName := ⟨RL, "mending", "(LUtilityWorks;I[J)I"⟩
abbrev cL_report : ByteArray := method_103_code
def yL_report : MethodName := ⟨RL, "report", "(LUtilityWorks;I[J)I"⟩
abbrev cL_law : ByteArray := code
def yL_law : MethodName := ⟨RL, "law", "([I)Z"⟩
