/-! ===== STEPS: places of the world, fields, statics ===== -/
section HP
variable {p : Program} {l : Launch} {e0 : Env} {R : Room} {s0 : State} {m : MethodId} {args : Array Value} {below : List Frame} {meth : Method} {c0 : Code} {Q : State → Prop}
variable {D : va_G} {tc : Nat → ClassId} {ad : Nat → Nat} {kd : Nat → Nat × Nat} {N nL : Nat} {A0 : Nat → Prop} {own : String} {cc : ByteArray} {sm : Nat → Nat}
variable {fl : fl_T} {ff : Nat → List md_T} {α0 : List av_X} {S0 : fw_S} {mod : List md_T} {α : List av_X} {A A' : as_T} {lv : List (Nat × Value)} {st rest : List Value} {S : fw_S} {pc n : Nat}
theorem fw_getstatic (C0 : fw_C p s0 m args meth c0 D tc A0 own cc nL) (hSt : fw_St sm A0 s0 s0.heap) {i index : Nat} {q : String × String × List Int} (hi : fw_sn[i]? = some q) (hlink : Cond.fieldLink own index q.1 q.2.1 "[I" ∈ fw_AW) (hdg : decode cc pc = .ok (.getstatic index, 3)) (k : fw_W p l e0 R s0 m args below meth c0 Q D tc ad kd N nL A0 (pc + 3) lv (.ref (sm i) :: rest) S n) : fw_W p l e0 R s0 m args below meth c0 Q D tc ad kd N nL A0 pc lv rest S n :=
  fun H locs ls cells slots h1 h2 hP hD hS hl => va_gets C0.1 C0.2.1 (hSt.1 i q hi).1 hS C0.2.2.2.1 (C0.2.2.2.2.1 _ hlink) (fun _ h => h) hdg (k H locs ls cells slots h1 h2 hP hD hS hl)
theorem fw_getstaticN (C0 : fw_C p s0 m args meth c0 D tc A0 own cc nL) (hSt : fw_St sm A0 s0 s0.heap) {i index : Nat} {host : String} {q : String × String × List Int} (hi : fw_sn[i]? = some q) (hlink : Cond.fieldLinkNest own index q.1 q.2.1 "[I" host ∈ fw_NW) (hdg : decode cc pc = .ok (.getstatic index, 3)) (k : fw_W p l e0 R s0 m args below meth c0 Q D tc ad kd N nL A0 (pc + 3) lv (.ref (sm i) :: rest) S n) : fw_W p l e0 R s0 m args below meth c0 Q D tc ad kd N nL A0 pc lv rest S n :=
  fun H locs ls cells slots h1 h2 hP hD hS hl => va_getsN C0.1 C0.2.1 (hSt.1 i q hi).1 hS C0.2.2.2.1 (va_Nw.use rfl (C0.2.2.2.2.2.2.2.2 _ hlink)) (fun _ h => h) hdg (k H locs ls cells slots h1 h2 hP hD hS hl)
theorem fw_tiaload (C0 : fw_C p s0 m args meth c0 D tc A0 own cc nL) (hSt : fw_St sm A0 s0 s0.heap) {i : Nat} {x : Int32} {q : String × String × List Int} (hi : fw_sn[i]? = some q) (hin : vp_in x q.2.2.length) (hdg : decode cc pc = .ok (.iaload, 1)) (k : fw_W p l e0 R s0 m args below meth c0 Q D tc ad kd N nL A0 (pc + 1) lv (.int (Int32.ofInt (q.2.2.getD x.toNatClampNeg 0)) :: rest) S n) : fw_W p l e0 R s0 m args below meth c0 Q D tc ad kd N nL A0 pc lv (.int x :: .ref (sm i) :: rest) S n :=
  fun H locs ls cells slots h1 h2 hP hD hS hl => va_ti C0.1 C0.2.1 (hSt.1 i q hi).2 hS hin (v := .int (Int32.ofInt (q.2.2.getD x.toNatClampNeg 0))) rfl hdg (k H locs ls cells slots h1 h2 hP hD hS hl)
theorem fw_tlen (C0 : fw_C p s0 m args meth c0 D tc A0 own cc nL) (hSt : fw_St sm A0 s0 s0.heap) {i : Nat} {q : String × String × List Int} (hi : fw_sn[i]? = some q) (hdg : decode cc pc = .ok (.arraylength, 1)) (k : fw_W p l e0 R s0 m args below meth c0 Q D tc ad kd N nL A0 (pc + 1) lv (.int (Int32.ofNat q.2.2.length) :: rest) S n) : fw_W p l e0 R s0 m args below meth c0 Q D tc ad kd N nL A0 pc lv (.ref (sm i) :: rest) S n :=
  fun H locs ls cells slots h1 h2 hP hD hS hl => va_tlen C0.1 C0.2.1 (hSt.1 i q hi).2 hS rfl hdg (k H locs ls cells slots h1 h2 hP hD hS hl)
/-- the cells that a name may be, and their kind -/
def q_rk (A : as_T) (i : Nat) : Option ((Nat × Nat) × (Nat × Nat)) := match q_av A i 2 with
  | some a => if a.2.2.1.toNat < wd_N then (match wd_span wd_kt a.2.1.toNat a.2.2.1.toNat with
    | some q => some ((a.2.1.toNat, a.2.2.1.toNat), q)
    | none => none) else none
  | none => none
theorem q_rk_in {i : Nat} {w : (Nat × Nat) × (Nat × Nat)} (h : q_rk A i = some w) : ∃ a d, A.1[i]? = some (a, d) ∧ a.1 = 2 ∧ ∀ k : Nat, av_in a (2, (k : Int)) → w.1.1 ≤ k ∧ k ≤ w.1.2 ∧ k < wd_N ∧ wd_kd k = w.2 := by
  unfold q_rk at h
  split at h
  · rename_i a ha
    obtain ⟨d, h1, h2⟩ := q_av_some ha
    split at h
    · rename_i hlt
      split at h
      · rename_i q hq
        cases h
        refine ⟨a, d, h1, h2, fun k hk => ?_⟩
        have g1 := hk.2.2.1
        have g2 := hk.2.2.2.1
        dsimp only at g1 g2
        exact ⟨by dsimp only; omega, by dsimp only; omega, by omega, wd_kd_span hq (by omega) (by omega)⟩
      · cases h
    · cases h
  · cases h
def q_same (A : as_T) (a b : Nat) : Bool := a == b || (match A.1[a]?, A.1[b]? with
  | some x, some y => x.1.1 == y.1.1 && decide (x.1.2.1 = x.1.2.2.1) && decide (y.1.2.1 = y.1.2.2.1) && decide (x.1.2.1 = y.1.2.1)
  | _, _ => false)
theorem q_same_in {a b : Nat} {x y : av_X} (H : as_in ad sm fl α0 S0 mod α A lv st S) (h : q_same A a b = true) (hx : α[a]? = some x) (hy : α[b]? = some y) : x = y := by
  unfold q_same at h
  rw [Bool.or_eq_true] at h
  rcases h with h | h
  · have : a = b := by simpa using h
    subst this
    exact Option.some.inj (hx.symm.trans hy)
  · obtain ⟨q, q1, q2, -⟩ := en_some H.2.1 hx
    obtain ⟨w, w1, w2, -⟩ := en_some H.2.1 hy
    rw [q1, w1] at h
    simp only [Bool.and_eq_true, beq_iff_eq, decide_eq_true_eq] at h
    obtain ⟨⟨⟨h1, h2⟩, h3⟩, h4⟩ := h
    have e1 : x.1 = y.1 := q2.1.trans (h1.trans w2.1.symm)
    have a1 := q2.2.2.1
    have a2 := q2.2.2.2.1
    have a3 := w2.2.2.1
    have a4 := w2.2.2.2.1
    exact Prod.ext e1 (by omega)
def q_known (A : as_T) (rv iv : Nat) : Option Nat := (A.2.2.2.1.find? (fun q => q_same A q.1 rv && q_same A q.2.1 iv)).map (fun q => q.2.2)
theorem q_known_in {rv iv x : Nat} {k j : Int} (H : as_in ad sm fl α0 S0 mod α A lv st S) (h : q_known A rv iv = some x) (hr : α[rv]? = some (2, k)) (hi : α[iv]? = some (0, j)) : ∃ X, α[x]? = some X ∧ ct_X S k.toNat j.toNat = some X := by
  unfold q_known at h
  cases hf : A.2.2.2.1.find? (fun q => q_same A q.1 rv && q_same A q.2.1 iv) with
  | none => rw [hf] at h; cases h
  | some q =>
    rw [hf] at h
    cases h
    have h1 := List.mem_of_find?_eq_some hf
    have h2 := List.find?_some hf
    rw [Bool.and_eq_true] at h2
    obtain ⟨k', j', X, g1, g2, g3, g4, g5, g6⟩ := H.2.2.2.2.1 q h1
    have e1 := q_same_in H h2.1 g1 hr
    have e2 := q_same_in H h2.2 g2 hi
    cases e1
    cases e2
    exact ⟨X, g3, g6⟩
theorem as_hf {q : Nat × Nat × Nat} (H : as_in ad sm fl α0 S0 mod α A lv st S) (hq : hf_in α S q) : as_in ad sm fl α0 S0 mod α (A.1, A.2.1, A.2.2.1, q :: A.2.2.2.1, A.2.2.2.2) lv st S := by
  obtain ⟨h1, h2, h3, h4, h5, h6⟩ := H
  exact ⟨h1, h2, h3, h4, fun w hw => by rcases List.mem_cons.mp hw with g | g; exact g ▸ hq; exact h5 w g, h6⟩
/-- what stood at a place before the first write -/
def q_old (z : Option (List (Nat × Nat × Nat))) (n rv iv : Nat) (A : as_T) : as_T := match z with
  | some [] => if n < 100000 then q_rel A 8 n rv iv else A
  | _ => A
theorem q_old_in {z : Option (List (Nat × Nat × Nat))} {n rv iv : Nat} {k j : Int} {X : av_X} (H : as_in ad sm fl α0 S0 mod α A lv st S) (hz : wz_in α S0 S z) (hn : α[n]? = some X) (hr : α[rv]? = some (2, k)) (hi : α[iv]? = some (0, j)) (hX : ct_X S k.toNat j.toNat = some X) : as_in ad sm fl α0 S0 mod α (q_old z n rv iv A) lv st S := by
  unfold q_old
  split
  · split
    · rename_i h
      have e : S = S0 := hz
      refine q_rel_in (by decide) h H ⟨_, _, hr, hi, X, hn, ?_⟩
      rw [← e]
      exact hX
    · exact H
  · exact H
/-- the number at a place, known or new -/
def q_read (A : as_T) (rv iv c1 c2 : Nat) (p : Nat × Nat × Nat) (k : Nat) : as_T := match q_known A rv iv with
  | some x => q_stk A (x :: A.2.2.1)
  | none => q_old A.2.2.2.2.2.2.2.2 A.1.length rv iv (A.1 ++ [(if k = 0 then rg_find (A.2.2.2.2.2.2.1 ++ wd_gt) c1 c2 p else av_ltop, none)], A.2.1, A.1.length :: A.2.2.1, (rv, iv, A.1.length) :: A.2.2.2.1, A.2.2.2.2)
theorem q_read_in {rv iv c1 c2 k : Nat} {p : Nat × Nat × Nat} {c : Nat} {j : Int} {X : av_X} (H : as_in ad sm fl α0 S0 mod α A lv st S) (hr : α[rv]? = some (2, (c : Int))) (hi : α[iv]? = some (0, j)) (hj : 0 ≤ j) (hX : ct_X S c j.toNat = some X) (hk : X.1 = k)
    (hx : k = 0 → X = (0, (S.1 c j.toNat).toInt)) (hl : k ≠ 0 → ∃ x : Int64, X = (1, x.toInt)) (h1 : c1 ≤ c) (h2 : c ≤ c2) (h3 : pg_in p j.toNat) : ∃ β, al_le α β ∧ as_in ad sm fl α0 S0 mod β (q_read A rv iv c1 c2 p k) lv (av_V ad sm X :: st) S := by
  have hc : ((c : Int)).toNat = c := by omega
  unfold q_read
  split
  · rename_i x hx2
    obtain ⟨Y, g1, g2⟩ := q_known_in H hx2 hr hi
    rw [hc, hX] at g2
    cases g2
    exact ⟨α, al_le.refl, as_pushv (as_q H rfl) g1⟩
  · have hin : av_in (if k = 0 then rg_find (A.2.2.2.2.2.2.1 ++ wd_gt) c1 c2 p else av_ltop) X := by
      split
      · rename_i h0
        rw [hx h0]
        refine rg_find_in (fun q hq => ?_) h1 h2 h3
        rcases List.mem_append.mp hq with g | g
        · exact H.2.2.2.2.2.2.2.1 q g
        · exact H.2.2.2.2.2.2.2.2.2.1.1 q g
      · rename_i h0
        obtain ⟨x, e⟩ := hl h0
        rw [e]
        exact av_ltop_in x
    have n1 := as_push (d := none) (as_q H rfl) hin (fun _ _ q => by cases q)
    have hlen : α.length = A.1.length := H.2.1.1
    refine ⟨α ++ [X], al_le_app, q_old_in (as_hf n1 ⟨(c : Int), j, X, al_le_app _ _ hr, al_le_app _ _ hi, by rw [← hlen]; exact al_last, by omega, hj, by rw [hc]; exact hX⟩) (wz_mono al_le_app H.2.2.2.2.2.2.2.2.2.2.2) (by rw [← hlen]; exact al_last) (al_le_app _ _ hr) (al_le_app _ _ hi) (by rw [hc]; exact hX)⟩
theorem ct_0 {c j : Nat} {z n0 : Nat} (h : wd_kd c = (z, n0)) (hz : z = 0 ∨ z = 2) : ct_X S c j = some (0, (S.1 c j).toInt) := by
  unfold ct_X
  rw [h]
  rcases hz with e | e <;> subst e <;> rfl
theorem ct_1 {c j n0 : Nat} (h : wd_kd c = (1, n0)) : ct_X S c j = some (1, (S.2.1 c j).toInt) := by
  unfold ct_X
  rw [h]
/-- an index in its row: the places, if all are in it -/
def q_ix (A : as_T) (iv n0 : Nat) : Option (Nat × Nat × Nat) := match q_av A iv 0 with
  | some b => if 0 ≤ b.2.1 ∧ b.2.2.1 < (n0 : Int) then some (pg_of b) else none
  | none => none
theorem q_ix_in {iv n0 : Nat} {p : Nat × Nat × Nat} (h : q_ix A iv n0 = some p) : ∃ b d, A.1[iv]? = some (b, d) ∧ b.1 = 0 ∧ ∀ x : Int32, av_in b (0, x.toInt) → vp_in x n0 ∧ 0 ≤ x.toInt ∧ pg_in p x.toInt.toNat := by
  unfold q_ix at h
  split at h
  · rename_i b hb
    obtain ⟨d, h1, h2⟩ := q_av_some hb
    split at h
    · rename_i hc
      cases h
      refine ⟨b, d, h1, h2, fun x hx => ?_⟩
      have g1 := hx.2.2.1
      have g2 := hx.2.2.2.1
      dsimp only at g1 g2
      exact ⟨vp_in_iff.mpr ⟨by omega, by omega⟩, by omega, pg_of_in hx hc.1⟩
    · cases h
  · cases h
theorem clamp_eq (x : Int32) : x.toNatClampNeg = x.toInt.toNat := rfl
/-- an element of a row: z the row's code, k the number's kind -/
def q_ald (A : as_T) (z k : Nat) : Option as_T := match A.2.2.1 with
  | iv :: rv :: s => match q_rk A rv with
    | some w => if w.2.1 = z then (match q_ix A iv w.2.2 with
      | some p => some (q_read (q_stk A s) rv iv w.1.1 w.1.2 p k)
      | none => none) else none
    | none => none
  | _ => none
theorem q_ald_in {z k : Nat} (h : q_ald A z k = some A') (H : as_in ad sm fl α0 S0 mod α A lv st S) (hz : (z = 0 ∨ z = 2) ∧ k = 0 ∨ z = 1 ∧ k = 1) : ∃ (x : Int32) (c n0 : Nat) (st' : List Value) (X : av_X) (β : List av_X), st = .int x :: .ref (ad c) :: st' ∧ c < wd_N ∧ wd_kd c = (z, n0) ∧ vp_in x n0 ∧ ct_X S c x.toNatClampNeg = some X ∧ al_le α β ∧ as_in ad sm fl α0 S0 mod β A' lv (av_V ad sm X :: st') S := by
  unfold q_ald at h
  split at h
  · rename_i iv rv s hs
    split at h
    · rename_i w hw
      split at h
      · rename_i hwz
        split at h
        · rename_i pp hp
          cases h
          obtain ⟨a, d, a1, a2, a3⟩ := q_rk_in hw
          obtain ⟨b, d', b1, b2, b3⟩ := q_ix_in hp
          obtain ⟨x, st1, e1, gx, g2, g3⟩ := as_popi (as_q H hs) b1 b2
          obtain ⟨c, st2, e2, gc, k3, k4⟩ := as_popr g3 a1 a2
          obtain ⟨l1, l2, l3, l4⟩ := a3 c k3
          obtain ⟨i1, i2, i3⟩ := b3 x g2
          have hkd : wd_kd c = (z, w.2.2) := by rw [l4, ← hwz]
          have k4 : as_in ad sm fl α0 S0 mod α (q_stk A s) lv st2 S := k4
          rcases hz with ⟨hz, hk⟩ | ⟨hz, hk⟩
          · have hX := ct_0 (S := S) (j := x.toInt.toNat) hkd hz
            obtain ⟨β, q1, q2⟩ := q_read_in (k := k) (p := pp) k4 gc gx i2 hX hk.symm (fun _ => rfl) (fun q => absurd hk q) l1 l2 i3
            exact ⟨x, c, w.2.2, st2, _, β, by rw [e1, e2], l3, hkd, i1, hX, q1, q2⟩
          · subst hz
            have hX := ct_1 (S := S) (j := x.toInt.toNat) hkd
            obtain ⟨β, q1, q2⟩ := q_read_in (k := k) (p := pp) k4 gc gx i2 hX hk.symm (fun q => by omega) (fun _ => ⟨_, rfl⟩) l1 l2 i3
            exact ⟨x, c, w.2.2, st2, _, β, by rw [e1, e2], l3, hkd, i1, hX, q1, q2⟩
        · cases h
      · cases h
    · cases h
  · cases h
/-- the world's kinds are the main ones, as far as those go -/
def kd_ok (kd : Nat → Nat × Nat) (N : Nat) : Prop := wd_N ≤ N ∧ ∀ k, k < wd_N → kd k = wd_kd k
theorem sp_iaload (C0 : fw_C p s0 m args meth c0 D tc A0 own cc nL) (hK : kd_ok kd N) (hdg : decode cc pc = .ok (.iaload, 1)) (h : q_ald A 0 0 = some A') (H : as_in ad sm fl α0 S0 mod α A lv st S) (k : sp_K p l e0 R s0 m args below meth c0 Q D tc ad kd N nL A0 sm fl α0 S0 mod α n (pc + 1) A') : fw_W p l e0 R s0 m args below meth c0 Q D tc ad kd N nL A0 pc lv st S n := by
  obtain ⟨x, c, n0, st', X, β, rfl, h1, h2, h3, h4, h5, h6⟩ := q_ald_in h H (Or.inl ⟨Or.inl rfl, rfl⟩)
  refine fw_iaload C0 (by have := hK.1; omega) ((hK.2 c h1).trans h2) h3 hdg ?_
  rw [ct_0 h2 (Or.inl rfl)] at h4
  cases h4
  have e : av_V ad sm (0, (S.1 c x.toNatClampNeg).toInt) = .int (S.1 c x.toNatClampNeg) := by show Value.int (Int32.ofInt _) = _; rw [Int32.ofInt_toInt]
  rw [e] at h6
  exact k _ _ _ _ h5 h6
theorem sp_baload (C0 : fw_C p s0 m args meth c0 D tc A0 own cc nL) (hK : kd_ok kd N) (hdg : decode cc pc = .ok (.baload, 1)) (h : q_ald A 2 0 = some A') (H : as_in ad sm fl α0 S0 mod α A lv st S) (k : sp_K p l e0 R s0 m args below meth c0 Q D tc ad kd N nL A0 sm fl α0 S0 mod α n (pc + 1) A') : fw_W p l e0 R s0 m args below meth c0 Q D tc ad kd N nL A0 pc lv st S n := by
  obtain ⟨x, c, n0, st', X, β, rfl, h1, h2, h3, h4, h5, h6⟩ := q_ald_in h H (Or.inl ⟨Or.inr rfl, rfl⟩)
  refine fw_baload C0 (by have := hK.1; omega) ((hK.2 c h1).trans h2) h3 hdg ?_
  rw [ct_0 h2 (Or.inr rfl)] at h4
  cases h4
  have e : av_V ad sm (0, (S.1 c x.toNatClampNeg).toInt) = .int (S.1 c x.toNatClampNeg) := by show Value.int (Int32.ofInt _) = _; rw [Int32.ofInt_toInt]
  rw [e] at h6
  exact k _ _ _ _ h5 h6
theorem sp_laload (C0 : fw_C p s0 m args meth c0 D tc A0 own cc nL) (hK : kd_ok kd N) (hdg : decode cc pc = .ok (.laload, 1)) (h : q_ald A 1 1 = some A') (H : as_in ad sm fl α0 S0 mod α A lv st S) (k : sp_K p l e0 R s0 m args below meth c0 Q D tc ad kd N nL A0 sm fl α0 S0 mod α n (pc + 1) A') : fw_W p l e0 R s0 m args below meth c0 Q D tc ad kd N nL A0 pc lv st S n := by
  obtain ⟨x, c, n0, st', X, β, rfl, h1, h2, h3, h4, h5, h6⟩ := q_ald_in h H (Or.inr ⟨rfl, rfl⟩)
  refine fw_laload C0 (by have := hK.1; omega) ((hK.2 c h1).trans h2) h3 hdg ?_
  rw [ct_1 h2] at h4
  cases h4
  have e : av_V ad sm (1, (S.2.1 c x.toNatClampNeg).toInt) = .long (S.2.1 c x.toNatClampNeg) := by show Value.long (Int64.ofInt _) = _; rw [Int64.ofInt_toInt]
  rw [e] at h6
  exact k _ _ _ _ h5 h6
/-- a row out of a table -/
def q_rt (c j1 j2 : Nat) : Option (Nat × Nat) := (wd_rt.find? (fun q => q.1 == c && decide (q.2.1 ≤ j1) && decide (j2 ≤ q.2.2.1))).map (fun q => (q.2.2.2 + (j1 - q.2.1), q.2.2.2 + (j2 - q.2.1)))
theorem q_rt_in {c j1 j2 j : Nat} {w : Nat × Nat} (H : as_in ad sm fl α0 S0 mod α A lv st S) (h : q_rt c j1 j2 = some w) (h1 : j1 ≤ j) (h2 : j ≤ j2) : ∃ t, S.2.2 c j = some t ∧ w.1 ≤ t ∧ t ≤ w.2 := by
  unfold q_rt at h
  cases hf : wd_rt.find? (fun q => q.1 == c && decide (q.2.1 ≤ j1) && decide (j2 ≤ q.2.2.1)) with
  | none => rw [hf] at h; cases h
  | some q =>
    rw [hf] at h
    cases h
    have g1 := List.mem_of_find?_eq_some hf
    have g2 := List.find?_some hf
    simp only [Bool.and_eq_true, beq_iff_eq, decide_eq_true_eq] at g2
    have g3 := H.2.2.2.2.2.2.2.2.2.1.2 q g1 j (by omega) (by omega)
    rw [g2.1.1] at g3
    exact ⟨_, g3, by dsimp only; omega, by dsimp only; omega⟩
theorem as_pushr {a : av_T} {t : Nat} (H : as_in ad sm fl α0 S0 mod α A lv st S) (ha : av_in a (2, (t : Int))) : as_in ad sm fl α0 S0 mod (α ++ [(2, (t : Int))]) (q_new A a none) lv (.ref (ad t) :: st) S := by
  have h1 := as_push (d := none) (as_q H rfl) ha (fun _ _ q => by cases q)
  have e : av_V ad sm (2, (t : Int)) = .ref (ad t) := by show Value.ref (ad ((t : Int)).toNat) = _; rw [show ((t : Int)).toNat = t by omega]
  rw [e] at h1
  exact h1
theorem ct_2 {c j z n0 r : Nat} (h : wd_kd c = (z, n0)) (hz : z = 3 ∨ z = 4) (hr : S.2.2 c j = some r) : ct_X S c j = some (2, (r : Int)) := by
  unfold ct_X
  rw [h, hr]
  rcases hz with e | e <;> subst e <;> rfl
def q_aald (A : as_T) : Option as_T := match A.2.2.1 with
  | iv :: rv :: s => match q_rk A rv with
    | some w => if (w.2.1 = 3 ∨ w.2.1 = 4) ∧ w.1.1 = w.1.2 then (match q_ix A iv w.2.2 with
      | some p => (match q_rt w.1.1 p.1 p.2.1 with
        | some t => (match q_known (q_stk A s) rv iv with
          | some x => some (q_stk A (x :: s))
          | none => some (A.1 ++ [(((2, (t.1 : Int), (t.2 : Int), 1) : av_T), none)], A.2.1, A.1.length :: s, (rv, iv, A.1.length) :: A.2.2.2.1, A.2.2.2.2))
        | none => none)
      | none => none) else none
    | none => none
  | _ => none
theorem sp_aaload (C0 : fw_C p s0 m args meth c0 D tc A0 own cc nL) (hK : kd_ok kd N) (hdg : decode cc pc = .ok (.aaload, 1)) (h : q_aald A = some A') (H : as_in ad sm fl α0 S0 mod α A lv st S) (k : sp_K p l e0 R s0 m args below meth c0 Q D tc ad kd N nL A0 sm fl α0 S0 mod α n (pc + 1) A') : fw_W p l e0 R s0 m args below meth c0 Q D tc ad kd N nL A0 pc lv st S n := by
  unfold q_aald at h
  split at h
  · rename_i iv rv s hs
    split at h
    · rename_i w hw
      split at h
      · rename_i hwz
        split at h
        · rename_i pp hp
          split at h
          · rename_i t ht
            obtain ⟨a, d, a1, a2, a3⟩ := q_rk_in hw
            obtain ⟨b, d', b1, b2, b3⟩ := q_ix_in hp
            obtain ⟨x, st1, e1, gx, g2, g3⟩ := as_popi (as_q H hs) b1 b2
            obtain ⟨c, st2, e2, gc, k3, k4⟩ := as_popr g3 a1 a2
            obtain ⟨l1, l2, l3, l4⟩ := a3 c k3
            obtain ⟨i1, i2, i3⟩ := b3 x g2
            have k4 : as_in ad sm fl α0 S0 mod α (q_stk A s) lv st2 S := k4
            have hc : w.1.1 = c := by have := hwz.2; omega
            rw [hc] at ht
            obtain ⟨r, r1, r2, r3⟩ := q_rt_in k4 ht i3.1 i3.2.1
            subst e1
            subst e2
            refine fw_aaload C0 (z := w.2.1) (n0 := w.2.2) (by rcases hwz.1 with q | q; exact Or.inl q; exact Or.inr (Or.inl q)) (by have := hK.1; omega) ((hK.2 c l3).trans l4) i1 hdg ?_
            rw [clamp_eq, r1]
            have hX : ct_X S c x.toInt.toNat = some (2, (r : Int)) := ct_2 (by rw [l4]) hwz.1 r1
            have hin : av_in ((2, (t.1 : Int), (t.2 : Int), 1) : av_T) (2, (r : Int)) := ⟨rfl, by show (0 : Int) ≤ (r : Int); omega, by show (t.1 : Int) ≤ (r : Int); omega, by show (r : Int) ≤ (t.2 : Int); omega, av_one _⟩
            split at h
            · rename_i y hy
              cases h
              obtain ⟨Y, y1, y2⟩ := q_known_in k4 hy gc gx
              rw [show ((c : Int)).toNat = c by omega, hX] at y2
              cases y2
              exact k _ _ _ _ al_le.refl (as_pushv (as_q k4 rfl) y1)
            · cases h
              have hl : α.length = A.1.length := H.2.1.1
              have h5 := as_hf (q := (rv, iv, A.1.length)) (as_pushr k4 hin) ⟨(c : Int), x.toInt, (2, (r : Int)), al_le_app _ _ gc, al_le_app _ _ gx, by rw [← hl]; exact al_last, by omega, i2, by rw [show ((c : Int)).toNat = c by omega]; exact hX⟩
              exact k _ _ _ _ al_le_app h5
          · cases h
        · cases h
      · cases h
    · cases h
  · cases h

end HP
