/-! ===== STEPS: stores, fields, statics, lengths, switches ===== -/
section ST
variable {p : Program} {l : Launch} {e0 : Env} {R : Room} {s0 : State} {m : MethodId} {args : Array Value} {below : List Frame} {meth : Method} {c0 : Code} {Q : State → Prop}
variable {D : va_G} {tc : Nat → ClassId} {ad : Nat → Nat} {kd : Nat → Nat × Nat} {N nL : Nat} {A0 : Nat → Prop} {own : String} {cc : ByteArray} {sm : Nat → Nat}
variable {fl : fl_T} {ff : Nat → List md_T} {α0 : List av_X} {S0 : fw_S} {mod : List md_T} {α : List av_X} {A A' : as_T} {lv : List (Nat × Value)} {st rest : List Value} {S : fw_S} {pc n : Nat}
/-- may an int of a be written there: what cells must hold -/
def q_gt (c1 c2 : Nat) (p : Nat × Nat × Nat) (a : av_T) : Bool := wd_gt.all (fun q => rg_off q c1 c2 p || av_le a q.2.2)
theorem q_gt_in {c1 c2 : Nat} {p : Nat × Nat × Nat} {a : av_T} (h : q_gt c1 c2 p a = true) : ∀ q ∈ wd_gt, rg_off q c1 c2 p = true ∨ ∃ b, some a = some b ∧ av_le b q.2.2 = true := by
  intro q hq
  have := List.all_eq_true.mp h q hq
  rw [Bool.or_eq_true] at this
  rcases this with g | g
  · exact Or.inl g
  · exact Or.inr ⟨a, rfl, g⟩
def wz_add (z : Option (List (Nat × Nat × Nat))) (q : Nat × Nat × Nat) : Option (List (Nat × Nat × Nat)) := match z with
  | some L => some (q :: L)
  | none => none
theorem as_wz {z : Option (List (Nat × Nat × Nat))} (H : as_in ad sm fl α0 S0 mod α A lv st S) (hz : wz_in α S0 S z) : as_in ad sm fl α0 S0 mod α (A.1, A.2.1, A.2.2.1, A.2.2.2.1, A.2.2.2.2.1, A.2.2.2.2.2.1, A.2.2.2.2.2.2.1, A.2.2.2.2.2.2.2.1, z) lv st S := by
  obtain ⟨h1, h2, h3, h4, h5, h6, h7, h8, h9, h10, h11, -⟩ := H
  exact ⟨h1, h2, h3, h4, h5, h6, h7, h8, h9, h10, h11, hz⟩
/-- the facts behind a store of an int (kn: the number may be read back) -/
def q_wr (ff : Nat → List md_T) (mod : List md_T) (A : as_T) (rv iv xv c1 c2 : Nat) (p : Nat × Nat × Nat) (a : av_T) (kn : Bool) : Option as_T :=
  if q_gt c1 c2 p a && md_ok mod c1 c2 p then (let B := as_kill ff c1 c2 p (some a) A; some (B.1, B.2.1, B.2.2.1, (if kn then (rv, iv, xv) :: B.2.2.2.1 else B.2.2.2.1), B.2.2.2.2.1, B.2.2.2.2.2.1, B.2.2.2.2.2.2.1, B.2.2.2.2.2.2.2.1, (if kn then wz_add A.2.2.2.2.2.2.2.2 (rv, iv, xv) else none))) else none
theorem q_wr_in {rv iv xv c1 c2 c j : Nat} {p : Nat × Nat × Nat} {a : av_T} {kn : Bool} {x : Int32} (hfl : fl_ok ff fl) (h : q_wr ff mod A rv iv xv c1 c2 p a kn = some A') (H : as_in ad sm fl α0 S0 mod α A lv st S) (h1 : c1 ≤ c) (h2 : c ≤ c2) (h3 : pg_in p j) (hx : av_in a (0, x.toInt))
    (hk : kn = true → α[rv]? = some (2, (c : Int)) ∧ α[iv]? = some (0, (j : Int)) ∧ α[xv]? = some (0, x.toInt) ∧ ct_X (fw_i S c j x) c j = some (0, x.toInt)) : as_in ad sm fl α0 S0 mod α A' lv st (fw_i S c j x) := by
  unfold q_wr at h
  split at h
  · rename_i hc
    rw [Bool.and_eq_true] at hc
    cases h
    have hch : ch_in c1 c2 p (some a) S (fw_i S c j x) := ch_i h1 h2 h3 hx
    have H2 := as_kill_in (ff := ff) hfl H hch (q_gt_in hc.1) (md_ok_fr hc.2 H.2.2.2.2.2.2.2.2.2.2.1 hch)
    cases kn with
    | false => exact H2
    | true =>
      obtain ⟨k1, k2, k3, k4⟩ := hk rfl
      have H3 := as_hf (q := (rv, iv, xv)) H2 ⟨(c : Int), (j : Int), (0, x.toInt), k1, k2, k3, by omega, by omega, by rw [show ((c : Int)).toNat = c by omega, show ((j : Int)).toNat = j by omega]; exact k4⟩
      refine as_wz H3 (z := wz_add A.2.2.2.2.2.2.2.2 (rv, iv, xv)) ?_
      have hw := H.2.2.2.2.2.2.2.2.2.2.2
      cases hz : A.2.2.2.2.2.2.2.2 with
      | none => trivial
      | some L =>
        rw [hz] at hw
        exact ⟨S, (c : Int), (j : Int), x.toInt, hw, k1, k2, k3, by rw [Int32.ofInt_toInt]; rfl⟩
  · cases h
def q_wrl (ff : Nat → List md_T) (mod : List md_T) (A : as_T) (rv iv xv c1 c2 : Nat) (p : Nat × Nat × Nat) : Option as_T :=
  if q_gt c1 c2 p (0, 1, 0, 0) && md_ok mod c1 c2 p then (let B := as_kill ff c1 c2 p (some (0, 1, 0, 0)) A; some (B.1, B.2.1, B.2.2.1, (rv, iv, xv) :: B.2.2.2.1, B.2.2.2.2)) else none
theorem ch_l2 {c1 c2 k j : Nat} {p : Nat × Nat × Nat} {x : Int64} (h1 : c1 ≤ k) (h2 : k ≤ c2) (h3 : pg_in p j) : ch_in c1 c2 p (some (0, 1, 0, 0)) S (fw_l S k j x) := ch_l h1 h2 h3
theorem q_wrl_in {rv iv xv c1 c2 c j : Nat} {p : Nat × Nat × Nat} {x : Int64} (hfl : fl_ok ff fl) (h : q_wrl ff mod A rv iv xv c1 c2 p = some A') (H : as_in ad sm fl α0 S0 mod α A lv st S) (h1 : c1 ≤ c) (h2 : c ≤ c2) (h3 : pg_in p j)
    (k1 : α[rv]? = some (2, (c : Int))) (k2 : α[iv]? = some (0, (j : Int))) (k3 : α[xv]? = some (1, x.toInt)) (k4 : ct_X (fw_l S c j x) c j = some (1, x.toInt)) : as_in ad sm fl α0 S0 mod α A' lv st (fw_l S c j x) := by
  unfold q_wrl at h
  split at h
  · rename_i hc
    rw [Bool.and_eq_true] at hc
    cases h
    have hch : ch_in c1 c2 p (some (0, 1, 0, 0)) S (fw_l S c j x) := ch_l2 h1 h2 h3
    have H2 := as_kill_in (ff := ff) hfl H hch (q_gt_in hc.1) (md_ok_fr hc.2 H.2.2.2.2.2.2.2.2.2.2.1 hch)
    exact as_hf (q := (rv, iv, xv)) H2 ⟨(c : Int), (j : Int), (1, x.toInt), k1, k2, k3, by omega, by omega, by rw [show ((c : Int)).toNat = c by omega, show ((j : Int)).toNat = j by omega]; exact k4⟩
  · cases h
theorem fw_i_get {k j : Nat} {x : Int32} : (fw_i S k j x).1 k j = x := by simp [fw_i]
theorem fw_l_get {k j : Nat} {x : Int64} : (fw_l S k j x).2.1 k j = x := by simp [fw_l]
def q_ast2 (ff : Nat → List md_T) (mod : List md_T) (A : as_T) (z xv iv rv : Nat) (s : List Nat) (w : (Nat × Nat) × (Nat × Nat)) (p : Nat × Nat × Nat) : Option as_T := match z with
  | 0 => (match q_av A xv 0 with
    | some a => q_wr ff mod (q_stk A s) rv iv xv w.1.1 w.1.2 p a true
    | none => none)
  | 2 => (match q_av A xv 0 with
    | some a => if 0 ≤ a.2.1 ∧ a.2.2.1 ≤ 1 then q_wr ff mod (q_stk A s) rv iv xv w.1.1 w.1.2 p a true else q_wr ff mod (q_stk A s) rv iv xv w.1.1 w.1.2 p (0, 0, 1, 1) false
    | none => none)
  | 1 => (match q_av A xv 1 with
    | some _ => q_wrl ff mod (q_stk A s) rv iv xv w.1.1 w.1.2 p
    | none => none)
  | _ => none
/-- a store into a row of code z -/
def q_ast (ff : Nat → List md_T) (mod : List md_T) (A : as_T) (z : Nat) : Option as_T := match A.2.2.1 with
  | xv :: iv :: rv :: s => match q_rk A rv with
    | some w => if w.2.1 = z then (match q_ix A iv w.2.2 with
      | some p => q_ast2 ff mod A z xv iv rv s w p
      | none => none) else none
    | none => none
  | _ => none
theorem q_ast_in {z : Nat} (h : q_ast ff mod A z = some A') : ∃ (xv iv rv : Nat) (s : List Nat) (w : (Nat × Nat) × (Nat × Nat)) (pp : Nat × Nat × Nat), A.2.2.1 = xv :: iv :: rv :: s ∧ q_rk A rv = some w ∧ w.2.1 = z ∧ q_ix A iv w.2.2 = some pp ∧ q_ast2 ff mod A z xv iv rv s w pp = some A' := by
  unfold q_ast at h
  split at h
  · rename_i xv iv rv s hs
    split at h
    · rename_i w hw
      split at h
      · rename_i hwz
        split at h
        · rename_i pp hp
          exact ⟨xv, iv, rv, s, w, pp, hs, hw, hwz, hp, h⟩
        · cases h
      · cases h
    · cases h
  · cases h
/-- the three operands of a store -/
theorem as_pop3 {xv iv rv k : Nat} {s : List Nat} {w : (Nat × Nat) × (Nat × Nat)} {pp : Nat × Nat × Nat} {a : av_T} (hs : A.2.2.1 = xv :: iv :: rv :: s) (hw : q_rk A rv = some w) (hp : q_ix A iv w.2.2 = some pp) (ha : q_av A xv k = some a) (H : as_in ad sm fl α0 S0 mod α A lv st S) :
    ∃ (X : av_X) (i : Int32) (c : Nat) (st' : List Value), st = av_V ad sm X :: .int i :: .ref (ad c) :: st' ∧ α[xv]? = some X ∧ av_in a X ∧ a.1 = k ∧ α[iv]? = some (0, i.toInt) ∧ α[rv]? = some (2, (c : Int)) ∧ as_in ad sm fl α0 S0 mod α (q_stk A s) lv st' S ∧ w.1.1 ≤ c ∧ c ≤ w.1.2 ∧ c < wd_N ∧ wd_kd c = w.2 ∧ vp_in i w.2.2 ∧ 0 ≤ i.toInt ∧ pg_in pp i.toInt.toNat := by
  obtain ⟨a', d, a1, a2, a3⟩ := q_rk_in hw
  obtain ⟨b, d', b1, b2, b3⟩ := q_ix_in hp
  obtain ⟨d2, h1, h2⟩ := q_av_some ha
  obtain ⟨X, st0, e0, gX, g0⟩ := as_pop (as_q H hs)
  obtain ⟨q, q1, q2, -⟩ := en_some H.2.1 gX
  cases q1.symm.trans h1
  obtain ⟨x, st1, e1, gx, g2, g3⟩ := as_popi g0 b1 b2
  obtain ⟨c, st2, e2, gc, k3, k4⟩ := as_popr g3 a1 a2
  obtain ⟨l1, l2, l3, l4⟩ := a3 c k3
  obtain ⟨i1, i2, i3⟩ := b3 x g2
  exact ⟨X, x, c, st2, by rw [e0, e1, e2], gX, q2, h2, gx, gc, k4, l1, l2, l3, l4, i1, i2, i3⟩
theorem av_V0 {a : av_T} {X : av_X} (h : av_in a X) (hk : a.1 = 0) : ∃ x : Int32, X = (0, x.toInt) ∧ av_V ad sm X = .int x := by
  have hi := av_int h hk
  obtain ⟨k, m⟩ := X
  have : k = 0 := h.1.trans hk
  subst this
  exact ⟨Int32.ofInt m, by rw [hi], rfl⟩
theorem av_V1 {a : av_T} {X : av_X} (h : av_in a X) (hk : a.1 = 1) : ∃ x : Int64, X = (1, x.toInt) ∧ av_V ad sm X = .long x := by
  have hi := av_long h hk
  obtain ⟨k, m⟩ := X
  have : k = 1 := h.1.trans hk
  subst this
  exact ⟨Int64.ofInt m, by rw [hi], rfl⟩
theorem sp_iastore (C0 : fw_C p s0 m args meth c0 D tc A0 own cc nL) (hK : kd_ok kd N) (hfl : fl_ok ff fl) (hdg : decode cc pc = .ok (.iastore, 1)) (h : q_ast ff mod A 0 = some A') (H : as_in ad sm fl α0 S0 mod α A lv st S) (k : sp_K p l e0 R s0 m args below meth c0 Q D tc ad kd N nL A0 sm fl α0 S0 mod α n (pc + 1) A') : fw_W p l e0 R s0 m args below meth c0 Q D tc ad kd N nL A0 pc lv st S n := by
  obtain ⟨xv, iv, rv, s, w, pp, hs, hw, hz, hp, h⟩ := q_ast_in h
  simp only [q_ast2] at h
  split at h
  · rename_i a ha
    obtain ⟨X, i, c, st', rfl, g1, g2, g3, g4, g5, g6, l1, l2, l3, l4, i1, i2, i3⟩ := as_pop3 hs hw hp ha H
    obtain ⟨x, e1, e2⟩ := av_V0 (ad := ad) (sm := sm) g2 g3
    rw [e2]
    subst e1
    have hkd : wd_kd c = (0, w.2.2) := by rw [l4, ← hz]
    refine fw_iastore C0 (by have := hK.1; omega) ((hK.2 c l3).trans hkd) i1 hdg (k _ _ _ _ al_le.refl ?_)
    rw [clamp_eq]
    exact q_wr_in hfl h g6 l1 l2 i3 g2 (fun _ => ⟨g5, by rw [Int.toNat_of_nonneg i2]; exact g4, g1, by rw [ct_0 hkd (Or.inl rfl), fw_i_get]⟩)
  · cases h
theorem vp_nar_b (x : Int32) : av_in ((0, 0, 1, 1) : av_T) (0, (vp_nar .boolean x).toInt) := by
  have e : vp_nar .boolean x = x &&& 1 := rfl
  rw [e]
  have := av_and_le (x := x) (y := 1) (by decide)
  exact ⟨rfl, (av_top_in _).2.1, this.1, this.2, av_one _⟩
theorem sp_bastore (C0 : fw_C p s0 m args meth c0 D tc A0 own cc nL) (hK : kd_ok kd N) (hfl : fl_ok ff fl) (hdg : decode cc pc = .ok (.bastore, 1)) (h : q_ast ff mod A 2 = some A') (H : as_in ad sm fl α0 S0 mod α A lv st S) (k : sp_K p l e0 R s0 m args below meth c0 Q D tc ad kd N nL A0 sm fl α0 S0 mod α n (pc + 1) A') : fw_W p l e0 R s0 m args below meth c0 Q D tc ad kd N nL A0 pc lv st S n := by
  obtain ⟨xv, iv, rv, s, w, pp, hs, hw, hz, hp, h⟩ := q_ast_in h
  simp only [q_ast2] at h
  split at h
  · rename_i a ha
    obtain ⟨X, i, c, st', rfl, g1, g2, g3, g4, g5, g6, l1, l2, l3, l4, i1, i2, i3⟩ := as_pop3 hs hw hp ha H
    obtain ⟨x, e1, e2⟩ := av_V0 (ad := ad) (sm := sm) g2 g3
    rw [e2]
    subst e1
    have hkd : wd_kd c = (2, w.2.2) := by rw [l4, ← hz]
    refine fw_bastore C0 (by have := hK.1; omega) ((hK.2 c l3).trans hkd) i1 hdg (k _ _ _ _ al_le.refl ?_)
    rw [clamp_eq]
    split at h
    · rename_i hb
      have b1 := g2.2.2.1
      have b2 := g2.2.2.2.1
      dsimp only at b1 b2
      have e : vp_nar .boolean x = x := by
        have : x.toInt = 0 ∨ x.toInt = 1 := by omega
        rcases this with e | e
        · have : x = 0 := Int32.toInt_inj.mp (e.trans rfl)
          subst this; decide
        · have : x = 1 := Int32.toInt_inj.mp (e.trans rfl)
          subst this; decide
      rw [e]
      exact q_wr_in hfl h g6 l1 l2 i3 g2 (fun _ => ⟨g5, by rw [Int.toNat_of_nonneg i2]; exact g4, g1, by rw [ct_0 hkd (Or.inr rfl), fw_i_get]⟩)
    · exact q_wr_in hfl h g6 l1 l2 i3 (vp_nar_b x) (fun q => by cases q)
  · cases h
theorem sp_lastore (C0 : fw_C p s0 m args meth c0 D tc A0 own cc nL) (hK : kd_ok kd N) (hfl : fl_ok ff fl) (hdg : decode cc pc = .ok (.lastore, 1)) (h : q_ast ff mod A 1 = some A') (H : as_in ad sm fl α0 S0 mod α A lv st S) (k : sp_K p l e0 R s0 m args below meth c0 Q D tc ad kd N nL A0 sm fl α0 S0 mod α n (pc + 1) A') : fw_W p l e0 R s0 m args below meth c0 Q D tc ad kd N nL A0 pc lv st S n := by
  obtain ⟨xv, iv, rv, s, w, pp, hs, hw, hz, hp, h⟩ := q_ast_in h
  simp only [q_ast2] at h
  split at h
  · rename_i a ha
    obtain ⟨X, i, c, st', rfl, g1, g2, g3, g4, g5, g6, l1, l2, l3, l4, i1, i2, i3⟩ := as_pop3 hs hw hp ha H
    obtain ⟨x, e1, e2⟩ := av_V1 (ad := ad) (sm := sm) g2 g3
    rw [e2]
    subst e1
    have hkd : wd_kd c = (1, w.2.2) := by rw [l4, ← hz]
    refine fw_lastore C0 (by have := hK.1; omega) ((hK.2 c l3).trans hkd) i1 hdg (k _ _ _ _ al_le.refl ?_)
    rw [clamp_eq]
    exact q_wrl_in hfl h g6 l1 l2 i3 g5 (by rw [Int.toNat_of_nonneg i2]; exact g4) g1 (by rw [ct_1 hkd, fw_l_get])
  · cases h
/-- a row's length -/
def q_len (A : as_T) : Option as_T := match A.2.2.1 with
  | rv :: s => match q_rk A rv with
    | some w => if w.2.1 < 6 ∧ w.2.2 < 2147483648 then some (q_cst (q_stk A s) (w.2.2 : Int)) else none
    | none => match q_av A rv 3 with
      | some a => if a.2.1 = a.2.2.1 then (match fw_sn[a.2.1.toNat]? with
        | some q => if q.2.2.length < 2147483648 then some (q_cst (q_stk A s) (q.2.2.length : Int)) else none
        | none => none) else none
      | none => none
  | _ => none
theorem nat_i32 {x : Nat} (h : x < 2147483648) : (Int32.ofNat x).toInt = (x : Int) := Int32.toInt_ofNat_of_lt h
theorem sp_alen (C0 : fw_C p s0 m args meth c0 D tc A0 own cc nL) (hSt : fw_St sm A0 s0 s0.heap) (hK : kd_ok kd N) (hdg : decode cc pc = .ok (.arraylength, 1)) (h : q_len A = some A') (H : as_in ad sm fl α0 S0 mod α A lv st S) (k : sp_K p l e0 R s0 m args below meth c0 Q D tc ad kd N nL A0 sm fl α0 S0 mod α n (pc + 1) A') : fw_W p l e0 R s0 m args below meth c0 Q D tc ad kd N nL A0 pc lv st S n := by
  unfold q_len at h
  split at h
  · rename_i rv s hs
    split at h
    · rename_i w hw
      split at h
      · rename_i hz
        cases h
        obtain ⟨a, d, a1, a2, a3⟩ := q_rk_in hw
        obtain ⟨c, st2, e2, gc, k3, k4⟩ := as_popr (as_q H hs) a1 a2
        obtain ⟨l1, l2, l3, l4⟩ := a3 c k3
        subst e2
        have k4 : as_in ad sm fl α0 S0 mod α (q_stk A s) lv st2 S := k4
        exact fw_alen C0 (z := w.2.1) (n0 := w.2.2) hz.1 (by have := hK.1; omega) ((hK.2 c l3).trans l4) hdg (k _ _ _ _ al_le_app (q_cst_in (nat_i32 hz.2) k4))
      · cases h
    · split at h
      · rename_i a ha
        split at h
        · rename_i hlo
          split at h
          · rename_i q hq
            split at h
            · rename_i hlen
              cases h
              obtain ⟨d, h1, h2⟩ := q_av_some ha
              obtain ⟨c, st2, e2, gc, k3, k4⟩ := as_pops (as_q H hs) h1 h2
              subst e2
              have k4 : as_in ad sm fl α0 S0 mod α (q_stk A s) lv st2 S := k4
              have e3 : c = a.2.1.toNat := by
                have := k3.2.2.1
                have := k3.2.2.2.1
                dsimp only at *
                omega
              exact fw_tlen C0 hSt (by rw [e3]; exact hq) hdg (k _ _ _ _ al_le_app (q_cst_in (nat_i32 hlen) k4))
            · cases h
          · cases h
        · cases h
      · cases h
  · cases h
/-- numbers of a static row, from one place to another -/
def tb_av (t : List Int) (a b : Nat) : av_T := (0, ((t.drop a).take (b + 1 - a)).foldl min ((t.drop a).headD 0), ((t.drop a).take (b + 1 - a)).foldl max ((t.drop a).headD 0), 1)
theorem tb_min {l : List Int} : ∀ {m x : Int}, x ∈ l ∨ m ≤ x → l.foldl min m ≤ x := by
  induction l with
  | nil => intro m x h; rcases h with h | h; cases h; exact h
  | cons y r ih =>
    intro m x h
    rw [List.foldl_cons]
    refine ih ?_
    rcases h with h | h
    · rcases List.mem_cons.mp h with g | g
      · subst g; exact Or.inr (Int.min_le_right _ _)
      · exact Or.inl g
    · exact Or.inr (Int.le_trans (Int.min_le_left _ _) h)
theorem tb_max {l : List Int} : ∀ {m x : Int}, x ∈ l ∨ x ≤ m → x ≤ l.foldl max m := by
  induction l with
  | nil => intro m x h; rcases h with h | h; cases h; exact h
  | cons y r ih =>
    intro m x h
    rw [List.foldl_cons]
    refine ih ?_
    rcases h with h | h
    · rcases List.mem_cons.mp h with g | g
      · subst g; exact Or.inr (Int.le_max_right _ _)
      · exact Or.inl g
    · exact Or.inr (Int.le_trans h (Int.le_max_left _ _))
theorem tb_av_in {t : List Int} {a b j : Nat} (h1 : a ≤ j) (h2 : j ≤ b) (h3 : j < t.length) (h4 : ∀ x ∈ t, (Int32.ofInt x).toInt = x) : av_in (tb_av t a b) (0, (Int32.ofInt (t.getD j 0)).toInt) := by
  have hm : t.getD j 0 ∈ (t.drop a).take (b + 1 - a) := by
    have e : ((t.drop a).take (b + 1 - a))[j - a]? = some (t.getD j 0) := by
      rw [List.getElem?_take, if_pos (by omega), List.getElem?_drop, show a + (j - a) = j by omega, List.getElem?_eq_getElem h3]
      simp [List.getD, List.getElem?_eq_getElem h3]
    exact List.mem_of_getElem? e
  have ht : t.getD j 0 ∈ t := List.mem_of_mem_drop (List.mem_of_mem_take hm)
  refine ⟨rfl, (av_top_in _).2.1, ?_, ?_, av_one _⟩
  · show _ ≤ (Int32.ofInt (t.getD j 0)).toInt
    rw [h4 _ ht]
    exact tb_min (Or.inl hm)
  · show (Int32.ofInt (t.getD j 0)).toInt ≤ _
    rw [h4 _ ht]
    exact tb_max (Or.inl hm)
theorem fw_sn_ok : ∀ q ∈ fw_sn, ∀ x ∈ q.2.2, (Int32.ofInt x).toInt = x := by decide +kernel
def q_tald (A : as_T) : Option as_T := match A.2.2.1 with
  | iv :: rv :: s => match q_av A rv 3 with
    | some a => if a.2.1 = a.2.2.1 then (match fw_sn[a.2.1.toNat]? with
      | some q => (match q_ix A iv q.2.2.length with
        | some p => some (q_arl (9010 + a.2.1.toNat) true A iv iv (q_new (q_stk A s) (tb_av q.2.2 p.1 p.2.1) none))
        | none => none)
      | none => none) else none
    | none => none
  | _ => none
theorem sp_tiaload (C0 : fw_C p s0 m args meth c0 D tc A0 own cc nL) (hSt : fw_St sm A0 s0 s0.heap) (hdg : decode cc pc = .ok (.iaload, 1)) (h : q_tald A = some A') (H : as_in ad sm fl α0 S0 mod α A lv st S) (k : sp_K p l e0 R s0 m args below meth c0 Q D tc ad kd N nL A0 sm fl α0 S0 mod α n (pc + 1) A') : fw_W p l e0 R s0 m args below meth c0 Q D tc ad kd N nL A0 pc lv st S n := by
  unfold q_tald at h
  split at h
  · rename_i iv rv s hs
    split at h
    · rename_i a ha
      split at h
      · rename_i hlo
        split at h
        · rename_i q hq
          split at h
          · rename_i pp hp
            cases h
            obtain ⟨d, h1, h2⟩ := q_av_some ha
            obtain ⟨b, d', b1, b2, b3⟩ := q_ix_in hp
            obtain ⟨x, st1, e1, gx, g2, g3⟩ := as_popi (as_q H hs) b1 b2
            obtain ⟨c, st2, e2, gc, k3, k4⟩ := as_pops g3 h1 h2
            obtain ⟨i1, i2, i3⟩ := b3 x g2
            have i4 := vp_in_iff.mp i1
            subst e1
            subst e2
            have k4 : as_in ad sm fl α0 S0 mod α (q_stk A s) lv st2 S := k4
            have e3 : c = a.2.1.toNat := by
              have := k3.2.2.1
              have := k3.2.2.2.1
              dsimp only at *
              omega
            refine fw_tiaload C0 hSt (by rw [e3]; exact hq) i1 hdg (k _ _ _ _ al_le_app (q_arl_in (by omega) (as_pushi (as_q k4 rfl) ?ga (fun _ _ q => by cases q)) (fun _ => ?gb)))
            case ga =>
              rw [clamp_eq]
              exact tb_av_in i3.1 i3.2.1 (by omega) (fw_sn_ok q (List.mem_of_getElem? hq))
            case gb =>
              refine ⟨(0, x.toInt), (0, x.toInt), al_le_app _ _ gx, al_le_app _ _ gx, ?_⟩
              have eα : (α ++ [(0, (Int32.ofInt (q.2.2.getD x.toNatClampNeg 0)).toInt)])[A.1.length]? = some (0, (Int32.ofInt (q.2.2.getD x.toNatClampNeg 0)).toInt) := by
                rw [← H.2.1.1]
                exact al_last
              have hc9 : 9010 ≤ 9010 + a.2.1.toNat := Nat.le_add_right _ _
              split <;> first | (exfalso; omega) | skip
              refine ⟨_, eα, ?_⟩
              rw [if_pos hc9]
              exact ⟨q, by rw [Nat.add_sub_cancel_left]; exact hq, rfl⟩
          · cases h
        · cases h
      · cases h
    · cases h
  · cases h
theorem sp_getstatic (C0 : fw_C p s0 m args meth c0 D tc A0 own cc nL) (hSt : fw_St sm A0 s0 s0.heap) {i index : Nat} {q : String × String × List Int} (hi : fw_sn[i]? = some q) (hlink : Cond.fieldLink own index q.1 q.2.1 "[I" ∈ fw_AW ∨ ∃ host, Cond.fieldLinkNest own index q.1 q.2.1 "[I" host ∈ fw_NW) (hdg : decode cc pc = .ok (.getstatic index, 3)) (H : as_in ad sm fl α0 S0 mod α A lv st S) (k : sp_K p l e0 R s0 m args below meth c0 Q D tc ad kd N nL A0 sm fl α0 S0 mod α n (pc + 3) (q_new A (3, (i : Int), (i : Int), 0) none)) : fw_W p l e0 R s0 m args below meth c0 Q D tc ad kd N nL A0 pc lv st S n := by
  have n1 := as_push (d := none) (a := (3, (i : Int), (i : Int), 0)) (x := (3, (i : Int))) (as_q H rfl) ⟨rfl, by show (0 : Int) ≤ (i : Int); omega, Int.le_refl _, Int.le_refl _, by dsimp only; rw [Int.sub_self]; exact Int.dvd_zero _⟩ (fun _ _ q => by cases q)
  have e : av_V ad sm (3, (i : Int)) = .ref (sm i) := by show Value.ref (sm ((i : Int)).toNat) = _; rw [show ((i : Int)).toNat = i by omega]
  rw [e] at n1
  rcases hlink with hl | ⟨host, hl⟩
  · exact fw_getstatic C0 hSt hi hl hdg (k _ _ _ _ al_le_app n1)
  · exact fw_getstaticN C0 hSt hi hl hdg (k _ _ _ _ al_le_app n1)
theorem sp_ldc (C0 : fw_C p s0 m args meth c0 D tc A0 own cc nL) {index : Nat} {v : Int32} (hc : Cond.constant own index v ∈ fw_AW) (hdg : decode cc pc = .ok (.ldc index, 2)) (H : as_in ad sm fl α0 S0 mod α A lv st S) (k : sp_K p l e0 R s0 m args below meth c0 Q D tc ad kd N nL A0 sm fl α0 S0 mod α n (pc + 2) (q_cst A v.toInt)) : fw_W p l e0 R s0 m args below meth c0 Q D tc ad kd N nL A0 pc lv st S n :=
  fw_ldc C0 hc hdg (k _ _ _ _ al_le_app (q_cst_in rfl H))
theorem sp_ldcw (C0 : fw_C p s0 m args meth c0 D tc A0 own cc nL) {index : Nat} {v : Int32} (hc : Cond.constant own index v ∈ fw_AW) (hdg : decode cc pc = .ok (.ldc_w index, 3)) (H : as_in ad sm fl α0 S0 mod α A lv st S) (k : sp_K p l e0 R s0 m args below meth c0 Q D tc ad kd N nL A0 sm fl α0 S0 mod α n (pc + 3) (q_cst A v.toInt)) : fw_W p l e0 R s0 m args below meth c0 Q D tc ad kd N nL A0 pc lv st S n :=
  fw_ldcw C0 hc hdg (k _ _ _ _ al_le_app (q_cst_in rfl H))
theorem sp_ldc2 (C0 : fw_C p s0 m args meth c0 D tc A0 own cc nL) {index : Nat} {v : Int64} (hc : Cond.constantLong own index v ∈ fw_AW) (hdg : decode cc pc = .ok (.ldc2_w index, 3)) (H : as_in ad sm fl α0 S0 mod α A lv st S) (k : sp_K p l e0 R s0 m args below meth c0 Q D tc ad kd N nL A0 sm fl α0 S0 mod α n (pc + 3) (q_new A (1, v.toInt, v.toInt, 0) none)) : fw_W p l e0 R s0 m args below meth c0 Q D tc ad kd N nL A0 pc lv st S n :=
  fw_ldc2 C0 hc hdg (k _ _ _ _ al_le_app (q_lcst_in rfl H))
end ST
