/-! ===== STEPS: switches, the numbers of Math, and every step by its instruction ===== -/
section SD
variable {p : Program} {l : Launch} {e0 : Env} {R : Room} {s0 : State} {m : MethodId} {args : Array Value} {below : List Frame} {meth : Method} {c0 : Code} {Q : State → Prop}
variable {D : va_G} {tc : Nat → ClassId} {ad : Nat → Nat} {kd : Nat → Nat × Nat} {N nL : Nat} {A0 : Nat → Prop} {own : String} {cc : ByteArray} {sm : Nat → Nat}
variable {fl : fl_T} {ff : Nat → List md_T} {α0 : List av_X} {S0 : fw_S} {mod : List md_T} {α : List av_X} {A A' : as_T} {lv : List (Nat × Value)} {st : List Value} {S : fw_S} {pc n : Nat}


def q_tsl (pc : Nat) (lo : Int) (B : as_T) (iv : Nat) (a : en_E) (offs : List Int) : sp_L := (List.range offs.length).filterMap (fun (i : Nat) => match offs[i]? with
  | some off => if a.1.2.1 ≤ lo + (i : Int) ∧ lo + (i : Int) ≤ a.1.2.2.1 then some (((pc : Int) + off).toNat, (B.1.set iv ((0, lo + (i : Int), lo + (i : Int), 0), a.2), B.2)) else none
  | none => none)
def q_tsd (t : Nat) (B : as_T) (iv : Nat) (a : en_E) (b : Option av_T) : sp_L := match b with
  | some b => [(t, (B.1.set iv (b, a.2), B.2))]
  | none => []
def q_tsw (pc : Nat) (dflt lo hi : Int) (offs : List Int) (A : as_T) : Option sp_L := match A.2.2.1 with
  | iv :: s => (match A.1[iv]? with
    | some a => if a.1.1 = 0 ∧ 0 ≤ (pc : Int) + dflt ∧ (∀ x ∈ offs, 0 ≤ (pc : Int) + x) ∧ hi - lo + 1 ≤ (offs.length : Int) then
        some (q_tsl pc lo (q_stk A s) iv a offs ++ (q_tsd ((pc : Int) + dflt).toNat (q_stk A s) iv a (av_dn a.1 (lo - 1)) ++ q_tsd ((pc : Int) + dflt).toNat (q_stk A s) iv a (av_up a.1 (hi + 1)))) else none
    | none => none)
  | _ => none
theorem sp_tsw (C0 : fw_C p s0 m args meth c0 D tc A0 own cc nL) {dflt lo hi : Int} {offs : Array Int} {len : Nat} {L : sp_L} (hdg : decode cc pc = .ok (.tableswitch dflt lo hi offs, len)) (h : q_tsw pc dflt lo hi offs.toList A = some L) (H : as_in ad sm fl α0 S0 mod α A lv st S) (k : ∀ q ∈ L, sp_K p l e0 R s0 m args below meth c0 Q D tc ad kd N nL A0 sm fl α0 S0 mod α n q.1 q.2) : fw_W p l e0 R s0 m args below meth c0 Q D tc ad kd N nL A0 pc lv st S n := by
  unfold q_tsw at h
  split at h
  · rename_i iv s hs
    split at h
    · rename_i a ha
      split at h
      · rename_i hc
        cases h
        obtain ⟨x, st', rfl, x1, x2, H2⟩ := as_popi (as_q H hs) ha hc.1
        have l1 := x2.2.2.1
        have l2 := x2.2.2.2.1
        dsimp only at l1 l2
        by_cases g : x.toInt < lo ∨ hi < x.toInt
        · rcases g with g | g
          · obtain ⟨b, b1, b2⟩ := av_dn_in x2 (n := lo - 1) (by dsimp only; omega)
            refine fw_tabOut C0 (tgt := ((pc : Int) + dflt).toNat) (Or.inl g) (by omega) hdg (k (((pc : Int) + dflt).toNat, ((q_stk A s).1.set iv (b, a.2), (q_stk A s).2)) (List.mem_append_right _ (List.mem_append_left _ ?_)) _ _ _ _ al_le.refl (as_set (A := q_stk A s) H2 x1 ha b2))
            rw [b1]
            exact List.mem_cons_self
          · obtain ⟨b, b1, b2⟩ := av_up_in x2 (n := hi + 1) (by dsimp only; omega)
            refine fw_tabOut C0 (tgt := ((pc : Int) + dflt).toNat) (Or.inr g) (by omega) hdg (k (((pc : Int) + dflt).toNat, ((q_stk A s).1.set iv (b, a.2), (q_stk A s).2)) (List.mem_append_right _ (List.mem_append_right _ ?_)) _ _ _ _ al_le.refl (as_set (A := q_stk A s) H2 x1 ha b2))
            rw [b1]
            exact List.mem_cons_self
        · have hi' : (x.toInt - lo).toNat < offs.toList.length := by omega
          have e : lo + (((x.toInt - lo).toNat : Nat) : Int) = x.toInt := by omega
          have hpos := hc.2.2.1 _ (List.getElem_mem hi')
          refine fw_tabIn C0 (tgt := ((pc : Int) + offs.toList[(x.toInt - lo).toNat]).toNat) (off := offs.toList[(x.toInt - lo).toNat]) (fun q => g (Or.inl q)) (fun q => g (Or.inr q)) (by rw [← Array.getElem?_toList]; exact List.getElem?_eq_getElem hi') (by omega) hdg ?_
          refine k (_, ((q_stk A s).1.set iv ((0, x.toInt, x.toInt, 0), a.2), (q_stk A s).2)) (List.mem_append_left _ (List.mem_filterMap.mpr ⟨(x.toInt - lo).toNat, List.mem_range.mpr hi', ?_⟩)) _ _ _ _ al_le.refl (as_set (A := q_stk A s) H2 x1 ha ⟨rfl, x2.2.1, Int.le_refl _, Int.le_refl _, by dsimp only; rw [Int.sub_self]; exact Int.dvd_zero _⟩)
          rw [List.getElem?_eq_getElem hi']
          dsimp only
          rw [e, if_pos ⟨l1, l2⟩]
          rfl
      · cases h
    · cases h
  · cases h
/-- the words of an operand stack -/
def sk_w (e : List en_E) : List Nat → Nat
  | [] => 0
  | i :: r => (if en_kind e i = 1 then 2 else 1) + sk_w e r
theorem sk_w_in {e : List en_E} (he : en_in α e) : ∀ {s : List Nat} {st : List Value}, sk_in ad sm α s st → (st.map fun v => v.category).sum = sk_w e s
  | [], [], _ => rfl
  | i :: r, v :: w, h => by
    obtain ⟨⟨x, h1, rfl⟩, h2⟩ := h
    rw [List.map_cons, List.sum_cons, sk_w_in he h2, sk_w, en_kind_eq he h1]
    rcases av_cat (ad := ad) (sm := sm) x with ⟨q1, q2⟩ | ⟨q1, q2⟩
    · rw [q2, if_pos q1]
    · rw [q2, if_neg q1]
  | [], _ :: _, h => h.elim
  | _ :: _, [], h => h.elim
def av_min (a b : av_T) : av_T := (0, min a.2.1 b.2.1, min a.2.2.1 b.2.2.1, 1)
def av_max (a b : av_T) : av_T := (0, max a.2.1 b.2.1, max a.2.2.1 b.2.2.1, 1)
theorem av_min_in {a b : av_T} {x y : Int32} (ha : av_in a (0, x.toInt)) (hb : av_in b (0, y.toInt)) : av_in (av_min a b) (0, (if y < x then y else x).toInt) := by
  have h1 := ha.2.2.1
  have h2 := ha.2.2.2.1
  have h3 := hb.2.2.1
  have h4 := hb.2.2.2.1
  dsimp only at h1 h2 h3 h4
  refine ⟨rfl, (av_top_in _).2.1, ?_, ?_, av_one _⟩
  · show min a.2.1 b.2.1 ≤ (if y < x then y else x).toInt
    split <;> omega
  · show (if y < x then y else x).toInt ≤ min a.2.2.1 b.2.2.1
    split
    · rename_i g
      have := Int32.lt_iff_toInt_lt.mp g
      omega
    · rename_i g
      have := mt Int32.lt_iff_toInt_lt.mpr g
      omega
theorem av_max_in {a b : av_T} {x y : Int32} (ha : av_in a (0, x.toInt)) (hb : av_in b (0, y.toInt)) : av_in (av_max a b) (0, (if x < y then y else x).toInt) := by
  have h1 := ha.2.2.1
  have h2 := ha.2.2.2.1
  have h3 := hb.2.2.1
  have h4 := hb.2.2.2.1
  dsimp only at h1 h2 h3 h4
  refine ⟨rfl, (av_top_in _).2.1, ?_, ?_, av_one _⟩
  · show max a.2.1 b.2.1 ≤ (if x < y then y else x).toInt
    split
    · rename_i g
      have := Int32.lt_iff_toInt_lt.mp g
      omega
    · rename_i g
      have := mt Int32.lt_iff_toInt_lt.mpr g
      omega
  · show (if x < y then y else x).toInt ≤ max a.2.2.1 b.2.2.1
    split <;> omega
def av_abs (a : av_T) : av_T := if -2147483648 < a.2.1 then (0, 0, max a.2.2.1 (-a.2.1), 1) else av_top
theorem av_abs_in {a : av_T} {x : Int32} (ha : av_in a (0, x.toInt)) : av_in (av_abs a) (0, (if 0 ≤ x then x else 0 - x).toInt) := by
  unfold av_abs
  split
  · rename_i g
    have h1 := ha.2.2.1
    have h2 := ha.2.2.2.1
    have hx := av_I x
    dsimp only at h1 h2
    have e : 0 ≤ (if 0 ≤ x then x else 0 - x).toInt ∧ (if 0 ≤ x then x else 0 - x).toInt ≤ max a.2.2.1 (-a.2.1) := by
      split
      · rename_i q
        have : 0 ≤ x.toInt := Int32.le_iff_toInt_le.mp q
        omega
      · rename_i q
        have : ¬ 0 ≤ x.toInt := fun z => q (Int32.le_iff_toInt_le.mpr z)
        have e2 : (0 - x).toInt = -x.toInt := by
          rw [Int32.toInt_sub, show (0 : Int32).toInt = 0 from rfl, av_wrap (by omega) (by omega)]
          omega
        rw [e2]
        omega
    exact ⟨rfl, (av_top_in _).2.1, e.1, e.2, av_one _⟩
  · exact av_top_in _
def q_bi (k : Nat) (A : as_T) : Option as_T := match k with
  | 10 => q_i2 av_min A
  | 11 => q_i2 av_max A
  | 12 => (match A.2.2.1 with
    | i :: s => (match q_av A i 0 with
      | some a => some (q_new (q_stk A s) (av_abs a) none)
      | none => none)
    | _ => none)
  | 13 => q_l2 A
  | 14 => q_l2 A
  | _ => none
def lkm_at (oc idx : Nat) : Option lk_F := (lkm oc).find? (fun q => q.1 == idx)
theorem lkm_at_in {oc idx : Nat} {q : lk_F} (h : lkm_at oc idx = some q) : q.1 = idx ∧ lkm_b oc q = true :=
  ⟨by simpa using List.find?_some h, lkm_ok oc q (List.mem_of_find?_eq_some h)⟩


theorem sp_bi (C0 : fw_C p s0 m args meth c0 D tc A0 own cc nL) {oc index : Nat} {q : lk_F} (ho : own = lk_own oc) (hq : lkm_at oc index = some q) (hf : 1 ≤ R.frames) (hl : sk_w A.1 A.2.2.1 + 15 ≤ R.locals) (hn : n ≤ R.cells) (hs : 6 * n ≤ R.slots) (hdg : decode cc pc = .ok (.invokestatic index, 3)) (h : q_bi q.2.1 A = some A') (H : as_in ad sm fl α0 S0 mod α A lv st S) (k : sp_K p l e0 R s0 m args below meth c0 Q D tc ad kd N nL A0 sm fl α0 S0 mod α n (pc + 3) A') : fw_W p l e0 R s0 m args below meth c0 Q D tc ad kd N nL A0 pc lv st S n := by
  obtain ⟨q1, q2⟩ := lkm_at_in hq
  have hw := sk_w_in H.2.1 H.2.2.2.1
  unfold q_bi at h
  split at h
  · rename_i hk
    unfold q_i2 at h
    split at h
    · rename_i j i s hs1
      split at h
      · rename_i a b ha hb
        cases h
        obtain ⟨x, y, st', rfl, -, -, g1, g2, g3⟩ := as_pop2 H hs1 ha hb
        have hlk : Cond.methodLink own index Lib.Math.min.name ∈ fw_AW := by
          unfold lkm_b at q2
          rw [hk] at q2
          rw [ho, ← q1]
          exact lk_chk_in q2
        rw [List.map_cons, List.sum_cons, List.map_cons, List.sum_cons] at hw
        intro HH locs ls cells slots z1 z2 hP hD hS hl2
        exact va_mmin C0.1 C0.2.1 (C0.2.2.1.trans hl2.1.symm) C0.2.2.2.1 (C0.2.2.2.2.1 _ hlk) (C0.2.2.2.2.1 _ lk_min_s) (C0.2.2.2.2.1 _ lk_math) (C0.2.2.2.2.1 _ lk_min_c) hf (by omega) (Nat.le_trans z1 hn) (Nat.le_trans z2 hs) hdg (k _ _ _ _ al_le_app (as_pushi g3 (av_min_in g1 g2) (fun _ _ q => by cases q)) HH locs ls cells slots z1 z2 hP hD hS hl2)
      · cases h
    · cases h
  · rename_i hk
    unfold q_i2 at h
    split at h
    · rename_i j i s hs1
      split at h
      · rename_i a b ha hb
        cases h
        obtain ⟨x, y, st', rfl, -, -, g1, g2, g3⟩ := as_pop2 H hs1 ha hb
        have hlk : Cond.methodLink own index Lib.Math.max.name ∈ fw_AW := by
          unfold lkm_b at q2
          rw [hk] at q2
          rw [ho, ← q1]
          exact lk_chk_in q2
        rw [List.map_cons, List.sum_cons, List.map_cons, List.sum_cons] at hw
        intro HH locs ls cells slots z1 z2 hP hD hS hl2
        exact va_mmax C0.1 C0.2.1 (C0.2.2.1.trans hl2.1.symm) C0.2.2.2.1 (C0.2.2.2.2.1 _ hlk) (C0.2.2.2.2.1 _ lk_max_s) (C0.2.2.2.2.1 _ lk_math) (C0.2.2.2.2.1 _ lk_max_c) hf (by omega) (Nat.le_trans z1 hn) (Nat.le_trans z2 hs) hdg (k _ _ _ _ al_le_app (as_pushi g3 (av_max_in g1 g2) (fun _ _ q => by cases q)) HH locs ls cells slots z1 z2 hP hD hS hl2)
      · cases h
    · cases h
  · rename_i hk
    split at h
    · rename_i i s hs1
      split at h
      · rename_i a ha
        cases h
        obtain ⟨d, a1, a2⟩ := q_av_some ha
        obtain ⟨x, st', rfl, -, g1, g3⟩ := as_popi (as_q H hs1) a1 a2
        have hlk : Cond.methodLink own index Lib.Math.abs.name ∈ fw_AW := by
          unfold lkm_b at q2
          rw [hk] at q2
          rw [ho, ← q1]
          exact lk_chk_in q2
        rw [List.map_cons, List.sum_cons] at hw
        intro HH locs ls cells slots z1 z2 hP hD hS hl2
        exact va_mabs C0.1 C0.2.1 (C0.2.2.1.trans hl2.1.symm) C0.2.2.2.1 (C0.2.2.2.2.1 _ hlk) (C0.2.2.2.2.1 _ lk_abs_s) (C0.2.2.2.2.1 _ lk_math) (C0.2.2.2.2.1 _ lk_abs_c) hf (by omega) (Nat.le_trans z1 hn) (Nat.le_trans z2 hs) hdg (k _ _ _ _ al_le_app (as_pushi g3 (av_abs_in g1) (fun _ _ q => by cases q)) HH locs ls cells slots z1 z2 hP hD hS hl2)
      · cases h
    · cases h
  · rename_i hk
    unfold q_l2 at h
    split at h
    · rename_i j i s hs1
      split at h
      · rename_i a b ha hb
        cases h
        obtain ⟨x, y, st', rfl, -, -, g1, g2, g3⟩ := as_pop2l H hs1 ha hb
        have hlk : Cond.methodLink own index Lib.MathLoose.min_long.x ∈ fw_AW := by
          unfold lkm_b at q2
          rw [hk] at q2
          rw [ho, ← q1]
          exact lk_chk_in q2
        rw [List.map_cons, List.sum_cons, List.map_cons, List.sum_cons] at hw
        intro HH locs ls cells slots z1 z2 hP hD hS hl2
        exact va_mmin_long C0.1 C0.2.1 (C0.2.2.1.trans hl2.1.symm) C0.2.2.2.1 (C0.2.2.2.2.1 _ hlk) (C0.2.2.2.2.1 _ lk_lmin_s) (C0.2.2.2.2.1 _ lk_math) (C0.2.2.2.2.1 _ lk_lmin_c) hf (by omega) (Nat.le_trans z1 hn) (Nat.le_trans z2 hs) hdg (k _ _ _ _ al_le_app (as_pushl g3 (av_ltop_in _)) HH locs ls cells slots z1 z2 hP hD hS hl2)
      · cases h
    · cases h
  · rename_i hk
    unfold q_l2 at h
    split at h
    · rename_i j i s hs1
      split at h
      · rename_i a b ha hb
        cases h
        obtain ⟨x, y, st', rfl, -, -, g1, g2, g3⟩ := as_pop2l H hs1 ha hb
        have hlk : Cond.methodLink own index Lib.MathLoose.max_long.x ∈ fw_AW := by
          unfold lkm_b at q2
          rw [hk] at q2
          rw [ho, ← q1]
          exact lk_chk_in q2
        rw [List.map_cons, List.sum_cons, List.map_cons, List.sum_cons] at hw
        intro HH locs ls cells slots z1 z2 hP hD hS hl2
        exact va_mmax_long C0.1 C0.2.1 (C0.2.2.1.trans hl2.1.symm) C0.2.2.2.1 (C0.2.2.2.2.1 _ hlk) (C0.2.2.2.2.1 _ lk_lmax_s) (C0.2.2.2.2.1 _ lk_math) (C0.2.2.2.2.1 _ lk_lmax_c) hf (by omega) (Nat.le_trans z1 hn) (Nat.le_trans z2 hs) hdg (k _ _ _ _ al_le_app (as_pushl g3 (av_ltop_in _)) HH locs ls cells slots z1 z2 hP hD hS hl2)
      · cases h
    · cases h
  · cases h


def q_1 (pc : Nat) (X : Option as_T) : Option sp_L := match X with
  | some A => some [(pc, A)]
  | none => none
theorem q_1_in {t : Nat} {X : Option as_T} {L : sp_L} (h : q_1 t X = some L) : ∃ B, X = some B ∧ (t, B) ∈ L := by
  unfold q_1 at h
  split at h
  · cases h
    exact ⟨_, rfl, List.mem_cons_self⟩
  · cases h
def lks_at (oc idx : Nat) : Option lk_F := (lks oc).find? (fun q => q.1 == idx)
def lkc_at (oc idx : Nat) : Option (Nat × Int32 × Nat) := (lkc oc).find? (fun q => q.1 == idx)
def lkl_at (oc idx : Nat) : Option (Nat × Int64 × Nat) := (lkl oc).find? (fun q => q.1 == idx)
theorem lks_at_in {oc idx : Nat} {q : lk_F} (h : lks_at oc idx = some q) : ∃ t, fw_sn[q.2.1]? = some t ∧ (Cond.fieldLink (lk_own oc) idx t.1 t.2.1 "[I" ∈ fw_AW ∨ ∃ host, Cond.fieldLinkNest (lk_own oc) idx t.1 t.2.1 "[I" host ∈ fw_NW) := by
  have h1 := lks_ok oc q (List.mem_of_find?_eq_some h)
  have h2 : q.1 = idx := by simpa using List.find?_some h
  unfold lks_b at h1
  split at h1
  · rename_i t ht
    refine ⟨t, ht, ?_⟩
    rw [← h2]
    split at h1
    · exact Or.inl (lk_chk_in h1)
    · exact Or.inr ⟨_, lk_at_in h1 rfl⟩
  · cases h1
theorem lkc_at_in {oc idx : Nat} {q : Nat × Int32 × Nat} (h : lkc_at oc idx = some q) : Cond.constant (lk_own oc) idx q.2.1 ∈ fw_AW := by
  have h1 := lkc_ok oc q (List.mem_of_find?_eq_some h)
  have h2 : q.1 = idx := by simpa using List.find?_some h
  rw [← h2]
  exact lk_chk_in h1
theorem lkl_at_in {oc idx : Nat} {q : Nat × Int64 × Nat} (h : lkl_at oc idx = some q) : Cond.constantLong (lk_own oc) idx q.2.1 ∈ fw_AW := by
  have h1 := lkl_ok oc q (List.mem_of_find?_eq_some h)
  have h2 : q.1 = idx := by simpa using List.find?_some h
  rw [← h2]
  exact lk_chk_in h1
/-- one step, whatever the instruction -/
def q_step (oc nL fr lo mc : Nat) (ff : Nat → List md_T) (mod : List md_T) (n pc len : Nat) (i : Instr) (A : as_T) : Option sp_L := match i with
  | .imul => if len = 1 then q_1 (pc + 1) (q_imul A) else none
  | .iand => if len = 1 then q_1 (pc + 1) (q_iand A) else none
  | .ishl => if len = 1 then q_1 (pc + 1) (q_i2 av_shl A) else none
  | .ior => if len = 1 then q_1 (pc + 1) (q_i2 (fun _ _ => av_top) A) else none
  | .ixor => if len = 1 then q_1 (pc + 1) (q_i2 (fun _ _ => av_top) A) else none
  | .ishr => if len = 1 then q_1 (pc + 1) (q_i2 (fun _ _ => av_top) A) else none
  | .iushr => if len = 1 then q_1 (pc + 1) (q_i2 (fun _ _ => av_top) A) else none
  | .iadd => if len = 1 then q_1 (pc + 1) (q_iadd A) else none
  | .isub => if len = 1 then q_1 (pc + 1) (q_isub A) else none
  | .idiv => if len = 1 then q_1 (pc + 1) (q_idv A) else none
  | .irem => if len = 1 then q_1 (pc + 1) (q_irm A) else none
  | .ladd => if len = 1 then q_1 (pc + 1) (q_l2 A) else none
  | .lsub => if len = 1 then q_1 (pc + 1) (q_l2 A) else none
  | .lmul => if len = 1 then q_1 (pc + 1) (q_l2 A) else none
  | .ldiv => if len = 1 then q_1 (pc + 1) (q_ldiv A) else none
  | .lrem => if len = 1 then q_1 (pc + 1) (q_ldiv A) else none
  | .ineg => if len = 1 then q_1 (pc + 1) (q_ineg A) else none
  | .lneg => if len = 1 then q_1 (pc + 1) (q_lneg A) else none
  | .i2l => if len = 1 then q_1 (pc + 1) (q_i2l A) else none
  | .l2i => if len = 1 then q_1 (pc + 1) (q_l2i A) else none
  | .dup => if len = 1 then q_1 (pc + 1) (q_dup A) else none
  | .dup_x1 => if len = 1 then q_1 (pc + 1) (q_dup_x1 A) else none
  | .dup2 => if len = 1 then q_1 (pc + 1) (q_dup2 A) else none
  | .pop => if len = 1 then q_1 (pc + 1) (q_pop A) else none
  | .lcmp => if len = 1 then q_1 (pc + 1) (q_lcmp A) else none
  | .iconst v => if len = 1 ∧ (Int32.ofInt v).toInt = v then q_1 (pc + 1) (some (q_cst A v)) else none
  | .bipush v => if len = 2 ∧ (Int8.ofInt v).toInt32.toInt = v then q_1 (pc + 2) (some (q_cst A v)) else none
  | .sipush v => if len = 3 ∧ (Int16.ofInt v).toInt32.toInt = v then q_1 (pc + 3) (some (q_cst A v)) else none
  | .lconst v => if len = 1 then q_1 (pc + 1) (some (q_new A (1, (v : Nat), (v : Nat), 0) none)) else none
  | .iload_n v => if len = 1 then q_1 (pc + 1) (q_load A (v : Nat) 0) else none
  | .iload v => if len = 2 then q_1 (pc + 2) (q_load A v 0) else none
  | .lload_n v => if len = 1 then q_1 (pc + 1) (q_load A (v : Nat) 1) else none
  | .lload v => if len = 2 then q_1 (pc + 2) (q_load A v 1) else none
  | .aload_n v => if len = 1 then q_1 (pc + 1) (q_load A (v : Nat) 2) else none
  | .aload v => if len = 2 then q_1 (pc + 2) (q_load A v 2) else none
  | .istore_n v => if len = 1 ∧ (v : Nat) < nL then q_1 (pc + 1) (q_store A (v : Nat) 0) else none
  | .istore v => if len = 2 ∧ v < nL then q_1 (pc + 2) (q_store A v 0) else none
  | .lstore_n v => if len = 1 ∧ (v : Nat) + 1 < nL then q_1 (pc + 1) (q_store A (v : Nat) 1) else none
  | .lstore v => if len = 2 ∧ v + 1 < nL then q_1 (pc + 2) (q_store A v 1) else none
  | .astore_n v => if len = 1 ∧ (v : Nat) < nL then q_1 (pc + 1) (q_store A (v : Nat) 2) else none
  | .astore v => if len = 2 ∧ v < nL then q_1 (pc + 2) (q_store A v 2) else none
  | .iinc v d => if len = 3 ∧ v < nL then q_1 (pc + 3) (q_iinc A v d) else none
  | .laload => if len = 1 then q_1 (pc + 1) (q_ald A 1 1) else none
  | .baload => if len = 1 then q_1 (pc + 1) (q_ald A 2 0) else none
  | .aaload => if len = 1 then q_1 (pc + 1) (q_aald A) else none
  | .iastore => if len = 1 then q_1 (pc + 1) (q_ast ff mod A 0) else none
  | .bastore => if len = 1 then q_1 (pc + 1) (q_ast ff mod A 2) else none
  | .lastore => if len = 1 then q_1 (pc + 1) (q_ast ff mod A 1) else none
  | .arraylength => if len = 1 then q_1 (pc + 1) (q_len A) else none
  | .getfield v => if len = 3 then q_1 (pc + 3) (q_getf oc v A) else none
  | .putfield v => if len = 3 then q_1 (pc + 3) (q_putf ff mod oc v A) else none
  | .goto off => if len = 3 ∧ 0 ≤ (pc : Int) + off then some [(((pc : Int) + off).toNat, A)] else none
  | .if_icmp o off => if len = 3 ∧ 0 ≤ (pc : Int) + off then q_icmp o A ((pc : Int) + off).toNat (pc + 3) else none
  | .ifCond o off => if len = 3 ∧ 0 ≤ (pc : Int) + off then q_if o A ((pc : Int) + off).toNat (pc + 3) else none
  | .iaload => if len = 1 then (match q_ald A 0 0 with | some B => some [(pc + 1, B)] | none => q_1 (pc + 1) (q_tald A)) else none
  | .ldc v => if len = 2 then (match lkc_at oc v with | some q => some [(pc + 2, q_cst A q.2.1.toInt)] | none => none) else none
  | .ldc_w v => if len = 3 then (match lkc_at oc v with | some q => some [(pc + 3, q_cst A q.2.1.toInt)] | none => none) else none
  | .ldc2_w v => if len = 3 then (match lkl_at oc v with | some q => some [(pc + 3, q_new A (1, q.2.1.toInt, q.2.1.toInt, 0) none)] | none => none) else none
  | .getstatic v => if len = 3 then (match lks_at oc v with | some q => some [(pc + 3, q_new A (3, (q.2.1 : Int), (q.2.1 : Int), 0) none)] | none => none) else none
  | .tableswitch dflt a b offs => q_tsw pc dflt a b offs.toList A
  | .invokestatic v => if len = 3 ∧ 1 ≤ fr ∧ sk_w A.1 A.2.2.1 + 15 ≤ lo ∧ n ≤ mc then (match lkm_at oc v with | some q => q_1 (pc + 3) (q_bi q.2.1 A) | none => none) else none
  | _ => none
theorem sp_step {oc fr lo mc len : Nat} {i : Instr} {L : sp_L} (hR : R = fw_rm fr lo mc) (C0 : fw_C p s0 m args meth c0 D tc A0 own cc nL) (hSt : fw_St sm A0 s0 s0.heap) (hK : kd_ok kd N) (hfl : fl_ok ff fl) (ho : own = lk_own oc) (hdg : decode cc pc = .ok (i, len)) (h : q_step oc nL fr lo mc ff mod n pc len i A = some L) (H : as_in ad sm fl α0 S0 mod α A lv st S) (k : ∀ q ∈ L, sp_K p l e0 R s0 m args below meth c0 Q D tc ad kd N nL A0 sm fl α0 S0 mod α n q.1 q.2) : fw_W p l e0 R s0 m args below meth c0 Q D tc ad kd N nL A0 pc lv st S n := by
  unfold q_step at h
  split at h
  · split at h
    · rename_i hc
      obtain ⟨B, hx, hb⟩ := q_1_in h
      have hk := k _ hb
      have hlen : len = 1 := hc
      subst hlen
      exact sp_imul C0 hdg hx H hk
    · cases h
  · split at h
    · rename_i hc
      obtain ⟨B, hx, hb⟩ := q_1_in h
      have hk := k _ hb
      have hlen : len = 1 := hc
      subst hlen
      exact sp_iand C0 hdg hx H hk
    · cases h
  · split at h
    · rename_i hc
      obtain ⟨B, hx, hb⟩ := q_1_in h
      have hk := k _ hb
      have hlen : len = 1 := hc
      subst hlen
      exact sp_ishl C0 hdg hx H hk
    · cases h
  · split at h
    · rename_i hc
      obtain ⟨B, hx, hb⟩ := q_1_in h
      have hk := k _ hb
      have hlen : len = 1 := hc
      subst hlen
      exact sp_ior C0 hdg hx H hk
    · cases h
  · split at h
    · rename_i hc
      obtain ⟨B, hx, hb⟩ := q_1_in h
      have hk := k _ hb
      have hlen : len = 1 := hc
      subst hlen
      exact sp_ixor C0 hdg hx H hk
    · cases h
  · split at h
    · rename_i hc
      obtain ⟨B, hx, hb⟩ := q_1_in h
      have hk := k _ hb
      have hlen : len = 1 := hc
      subst hlen
      exact sp_ishr C0 hdg hx H hk
    · cases h
  · split at h
    · rename_i hc
      obtain ⟨B, hx, hb⟩ := q_1_in h
      have hk := k _ hb
      have hlen : len = 1 := hc
      subst hlen
      exact sp_iushr C0 hdg hx H hk
    · cases h
  · split at h
    · rename_i hc
      obtain ⟨B, hx, hb⟩ := q_1_in h
      have hk := k _ hb
      have hlen : len = 1 := hc
      subst hlen
      exact sp_iadd C0 hdg hx H hk
    · cases h
  · split at h
    · rename_i hc
      obtain ⟨B, hx, hb⟩ := q_1_in h
      have hk := k _ hb
      have hlen : len = 1 := hc
      subst hlen
      exact sp_isub C0 hdg hx H hk
    · cases h
  · split at h
    · rename_i hc
      obtain ⟨B, hx, hb⟩ := q_1_in h
      have hk := k _ hb
      have hlen : len = 1 := hc
      subst hlen
      exact sp_idiv C0 hdg hx H hk
    · cases h
  · split at h
    · rename_i hc
      obtain ⟨B, hx, hb⟩ := q_1_in h
      have hk := k _ hb
      have hlen : len = 1 := hc
      subst hlen
      exact sp_irem C0 hdg hx H hk
    · cases h
  · split at h
    · rename_i hc
      obtain ⟨B, hx, hb⟩ := q_1_in h
      have hk := k _ hb
      have hlen : len = 1 := hc
      subst hlen
      exact sp_ladd C0 hdg hx H hk
    · cases h
  · split at h
    · rename_i hc
      obtain ⟨B, hx, hb⟩ := q_1_in h
      have hk := k _ hb
      have hlen : len = 1 := hc
      subst hlen
      exact sp_lsub C0 hdg hx H hk
    · cases h
  · split at h
    · rename_i hc
      obtain ⟨B, hx, hb⟩ := q_1_in h
      have hk := k _ hb
      have hlen : len = 1 := hc
      subst hlen
      exact sp_lmul C0 hdg hx H hk
    · cases h
  · split at h
    · rename_i hc
      obtain ⟨B, hx, hb⟩ := q_1_in h
      have hk := k _ hb
      have hlen : len = 1 := hc
      subst hlen
      exact sp_ldiv C0 hdg hx H hk
    · cases h
  · split at h
    · rename_i hc
      obtain ⟨B, hx, hb⟩ := q_1_in h
      have hk := k _ hb
      have hlen : len = 1 := hc
      subst hlen
      exact sp_lrem C0 hdg hx H hk
    · cases h
  · split at h
    · rename_i hc
      obtain ⟨B, hx, hb⟩ := q_1_in h
      have hk := k _ hb
      have hlen : len = 1 := hc
      subst hlen
      exact sp_ineg C0 hdg hx H hk
    · cases h
  · split at h
    · rename_i hc
      obtain ⟨B, hx, hb⟩ := q_1_in h
      have hk := k _ hb
      have hlen : len = 1 := hc
      subst hlen
      exact sp_lneg C0 hdg hx H hk
    · cases h
  · split at h
    · rename_i hc
      obtain ⟨B, hx, hb⟩ := q_1_in h
      have hk := k _ hb
      have hlen : len = 1 := hc
      subst hlen
      exact sp_i2l C0 hdg hx H hk
    · cases h
  · split at h
    · rename_i hc
      obtain ⟨B, hx, hb⟩ := q_1_in h
      have hk := k _ hb
      have hlen : len = 1 := hc
      subst hlen
      exact sp_l2i C0 hdg hx H hk
    · cases h
  · split at h
    · rename_i hc
      obtain ⟨B, hx, hb⟩ := q_1_in h
      have hk := k _ hb
      have hlen : len = 1 := hc
      subst hlen
      exact sp_dup C0 hdg hx H hk
    · cases h
  · split at h
    · rename_i hc
      obtain ⟨B, hx, hb⟩ := q_1_in h
      have hk := k _ hb
      have hlen : len = 1 := hc
      subst hlen
      exact sp_dup_x1 C0 hdg hx H hk
    · cases h
  · split at h
    · rename_i hc
      obtain ⟨B, hx, hb⟩ := q_1_in h
      have hk := k _ hb
      have hlen : len = 1 := hc
      subst hlen
      exact sp_dup2 C0 hdg hx H hk
    · cases h
  · split at h
    · rename_i hc
      obtain ⟨B, hx, hb⟩ := q_1_in h
      have hk := k _ hb
      have hlen : len = 1 := hc
      subst hlen
      exact sp_pop C0 hdg hx H hk
    · cases h
  · split at h
    · rename_i hc
      obtain ⟨B, hx, hb⟩ := q_1_in h
      have hk := k _ hb
      have hlen : len = 1 := hc
      subst hlen
      exact sp_lcmp C0 hdg hx H hk
    · cases h
  · split at h
    · rename_i hc
      obtain ⟨B, hx, hb⟩ := q_1_in h
      have hk := k _ hb
      cases hx
      have hlen : len = 1 := hc.1
      subst hlen
      exact sp_iconst C0 hdg hc.2 H hk
    · cases h
  · split at h
    · rename_i hc
      obtain ⟨B, hx, hb⟩ := q_1_in h
      have hk := k _ hb
      cases hx
      have hlen : len = 2 := hc.1
      subst hlen
      exact sp_bipush C0 hdg hc.2 H hk
    · cases h
  · split at h
    · rename_i hc
      obtain ⟨B, hx, hb⟩ := q_1_in h
      have hk := k _ hb
      cases hx
      have hlen : len = 3 := hc.1
      subst hlen
      exact sp_sipush C0 hdg hc.2 H hk
    · cases h
  · split at h
    · rename_i hc
      obtain ⟨B, hx, hb⟩ := q_1_in h
      have hk := k _ hb
      cases hx
      have hlen : len = 1 := hc
      subst hlen
      exact sp_lconst C0 hdg H hk
    · cases h
  · split at h
    · rename_i hc
      obtain ⟨B, hx, hb⟩ := q_1_in h
      have hk := k _ hb
      have hlen : len = 1 := hc
      subst hlen
      exact sp_iload_n C0 hdg hx H hk
    · cases h
  · split at h
    · rename_i hc
      obtain ⟨B, hx, hb⟩ := q_1_in h
      have hk := k _ hb
      have hlen : len = 2 := hc
      subst hlen
      exact sp_iload C0 hdg hx H hk
    · cases h
  · split at h
    · rename_i hc
      obtain ⟨B, hx, hb⟩ := q_1_in h
      have hk := k _ hb
      have hlen : len = 1 := hc
      subst hlen
      exact sp_lload_n C0 hdg hx H hk
    · cases h
  · split at h
    · rename_i hc
      obtain ⟨B, hx, hb⟩ := q_1_in h
      have hk := k _ hb
      have hlen : len = 2 := hc
      subst hlen
      exact sp_lload C0 hdg hx H hk
    · cases h
  · split at h
    · rename_i hc
      obtain ⟨B, hx, hb⟩ := q_1_in h
      have hk := k _ hb
      have hlen : len = 1 := hc
      subst hlen
      exact sp_aload_n C0 hdg hx H hk
    · cases h
  · split at h
    · rename_i hc
      obtain ⟨B, hx, hb⟩ := q_1_in h
      have hk := k _ hb
      have hlen : len = 2 := hc
      subst hlen
      exact sp_aload C0 hdg hx H hk
    · cases h
  · split at h
    · rename_i hc
      obtain ⟨B, hx, hb⟩ := q_1_in h
      have hk := k _ hb
      have hlen : len = 1 := hc.1
      subst hlen
      exact sp_istore_n C0 rfl hc.2 hdg hx H hk
    · cases h
  · split at h
    · rename_i hc
      obtain ⟨B, hx, hb⟩ := q_1_in h
      have hk := k _ hb
      have hlen : len = 2 := hc.1
      subst hlen
      exact sp_istore C0 hc.2 hdg hx H hk
    · cases h
  · split at h
    · rename_i hc
      obtain ⟨B, hx, hb⟩ := q_1_in h
      have hk := k _ hb
      have hlen : len = 1 := hc.1
      subst hlen
      exact sp_lstore_n C0 rfl hc.2 hdg hx H hk
    · cases h
  · split at h
    · rename_i hc
      obtain ⟨B, hx, hb⟩ := q_1_in h
      have hk := k _ hb
      have hlen : len = 2 := hc.1
      subst hlen
      exact sp_lstore C0 hc.2 hdg hx H hk
    · cases h
  · split at h
    · rename_i hc
      obtain ⟨B, hx, hb⟩ := q_1_in h
      have hk := k _ hb
      have hlen : len = 1 := hc.1
      subst hlen
      exact sp_astore_n C0 rfl hc.2 hdg hx H hk
    · cases h
  · split at h
    · rename_i hc
      obtain ⟨B, hx, hb⟩ := q_1_in h
      have hk := k _ hb
      have hlen : len = 2 := hc.1
      subst hlen
      exact sp_astore C0 hc.2 hdg hx H hk
    · cases h
  · split at h
    · rename_i hc
      obtain ⟨B, hx, hb⟩ := q_1_in h
      have hk := k _ hb
      have hlen : len = 3 := hc.1
      subst hlen
      exact sp_iinc C0 hc.2 hdg hx H hk
    · cases h
  · split at h
    · rename_i hc
      obtain ⟨B, hx, hb⟩ := q_1_in h
      have hk := k _ hb
      have hlen : len = 1 := hc
      subst hlen
      exact sp_laload C0 hK hdg hx H hk
    · cases h
  · split at h
    · rename_i hc
      obtain ⟨B, hx, hb⟩ := q_1_in h
      have hk := k _ hb
      have hlen : len = 1 := hc
      subst hlen
      exact sp_baload C0 hK hdg hx H hk
    · cases h
  · split at h
    · rename_i hc
      obtain ⟨B, hx, hb⟩ := q_1_in h
      have hk := k _ hb
      have hlen : len = 1 := hc
      subst hlen
      exact sp_aaload C0 hK hdg hx H hk
    · cases h
  · split at h
    · rename_i hc
      obtain ⟨B, hx, hb⟩ := q_1_in h
      have hk := k _ hb
      have hlen : len = 1 := hc
      subst hlen
      exact sp_iastore C0 hK hfl hdg hx H hk
    · cases h
  · split at h
    · rename_i hc
      obtain ⟨B, hx, hb⟩ := q_1_in h
      have hk := k _ hb
      have hlen : len = 1 := hc
      subst hlen
      exact sp_bastore C0 hK hfl hdg hx H hk
    · cases h
  · split at h
    · rename_i hc
      obtain ⟨B, hx, hb⟩ := q_1_in h
      have hk := k _ hb
      have hlen : len = 1 := hc
      subst hlen
      exact sp_lastore C0 hK hfl hdg hx H hk
    · cases h
  · split at h
    · rename_i hc
      obtain ⟨B, hx, hb⟩ := q_1_in h
      have hk := k _ hb
      have hlen : len = 1 := hc
      subst hlen
      exact sp_alen C0 hSt hK hdg hx H hk
    · cases h
  · split at h
    · rename_i hc
      obtain ⟨B, hx, hb⟩ := q_1_in h
      have hk := k _ hb
      have hlen : len = 3 := hc
      subst hlen
      exact sp_getfield C0 hK ho hdg hx H hk
    · cases h
  · split at h
    · rename_i hc
      obtain ⟨B, hx, hb⟩ := q_1_in h
      have hk := k _ hb
      have hlen : len = 3 := hc
      subst hlen
      exact sp_putfield C0 hK hfl ho hdg hx H hk
    · cases h
  · split at h
    · rename_i hc
      cases h
      obtain ⟨hlen, h0⟩ := hc
      subst hlen
      exact sp_goto C0 hdg (by omega) H (k _ List.mem_cons_self)
    · cases h
  · split at h
    · rename_i o off hc
      obtain ⟨hlen, h0⟩ := hc
      subst hlen
      have ht : (pc : Int) + off = ((((pc : Int) + off).toNat : Nat) : Int) := by omega
      match o with
      | .eq => exact sp_icmp_eq C0 hdg ht h H k
      | .ne => exact sp_icmp_ne C0 hdg ht h H k
      | .lt => exact sp_icmp_lt C0 hdg ht h H k
      | .ge => exact sp_icmp_ge C0 hdg ht h H k
      | .gt => exact sp_icmp_gt C0 hdg ht h H k
      | .le => exact sp_icmp_le C0 hdg ht h H k
    · cases h
  · split at h
    · rename_i o off hc
      obtain ⟨hlen, h0⟩ := hc
      subst hlen
      have ht : (pc : Int) + off = ((((pc : Int) + off).toNat : Nat) : Int) := by omega
      match o with
      | .eq => exact sp_if_eq C0 hdg ht h H k
      | .ne => exact sp_if_ne C0 hdg ht h H k
      | .lt => exact sp_if_lt C0 hdg ht h H k
      | .ge => exact sp_if_ge C0 hdg ht h H k
      | .gt => exact sp_if_gt C0 hdg ht h H k
      | .le => exact sp_if_le C0 hdg ht h H k
    · cases h
  · split at h
    · rename_i hlen
      subst hlen
      split at h
      · rename_i B hx
        cases h
        exact sp_iaload C0 hK hdg hx H (k _ List.mem_cons_self)
      · obtain ⟨B, hx, hb⟩ := q_1_in h
        exact sp_tiaload C0 hSt hdg hx H (k _ hb)
    · cases h
  · split at h
    · rename_i hlen
      subst hlen
      split at h
      · rename_i q hq
        cases h
        exact sp_ldc C0 (by rw [ho]; exact lkc_at_in hq) hdg H (k _ List.mem_cons_self)
      · cases h
    · cases h
  · split at h
    · rename_i hlen
      subst hlen
      split at h
      · rename_i q hq
        cases h
        exact sp_ldcw C0 (by rw [ho]; exact lkc_at_in hq) hdg H (k _ List.mem_cons_self)
      · cases h
    · cases h
  · split at h
    · rename_i hlen
      subst hlen
      split at h
      · rename_i q hq
        cases h
        exact sp_ldc2 C0 (by rw [ho]; exact lkl_at_in hq) hdg H (k _ List.mem_cons_self)
      · cases h
    · cases h
  · split at h
    · rename_i hlen
      subst hlen
      split at h
      · rename_i q hq
        cases h
        obtain ⟨t, t1, t2⟩ := lks_at_in hq
        rw [← ho] at t2
        exact sp_getstatic C0 hSt t1 t2 hdg H (k _ List.mem_cons_self)
      · cases h
    · cases h
  · exact sp_tsw C0 hdg h H k
  · split at h
    · rename_i hc
      obtain ⟨hlen, c1, c2, c3⟩ := hc
      subst hlen
      subst hR
      split at h
      · rename_i q hq
        obtain ⟨B, hx, hb⟩ := q_1_in h
        exact sp_bi C0 ho hq c1 c2 c3 (Nat.mul_le_mul_left 6 c3) hdg hx H (k _ hb)
      · cases h
    · cases h
  · cases h

end SD
