/-! ===== BY HAND: segments of a body, with what they do noted ===== -/
/-- one state says all that another one says -/
def as_sub (A B : as_T) : Bool :=
  decide (A.1.length = B.1.length) && (A.1.zip B.1).all (fun w => av_le w.1.1 w.2.1 && (w.2.2.isNone || decide (w.1.2 = w.2.2))) &&
  B.2.1.all (fun w => A.2.1.contains w) && decide (A.2.2.1 = B.2.2.1) && B.2.2.2.1.all (fun w => A.2.2.2.1.contains w) && B.2.2.2.2.1.all (fun w => A.2.2.2.2.1.contains w) && B.2.2.2.2.2.1.all (fun w => A.2.2.2.2.2.1.contains w) &&
  B.2.2.2.2.2.2.1.all (q_rg A) && B.2.2.2.2.2.2.2.1.all (fun g => A.2.2.2.2.2.2.2.1.contains g) && (B.2.2.2.2.2.2.2.2.isNone || decide (A.2.2.2.2.2.2.2.2 = B.2.2.2.2.2.2.2.2))
/-- a place to stop at: pc, exceptions made, state -/
abbrev sg_T : Type := Nat × Nat × as_T
def en_sg (oc nL fr lo mc na : Nat) (ret : Option FieldType) (ff : Nat → List md_T) (mod : List md_T) (Cs : List ct_T) (cc : ByteArray) (Bs : List sg_T) : Nat → Bool → Nat → Nat → as_T → Bool
  | 0, _, _, _, _ => false
  | f + 1, first, n, pc, A => if !first && Bs.any (fun q => q.1 == pc) then Bs.any (fun q => q.1 == pc && decide (n ≤ q.2.1) && as_sub A q.2.2) else (match decode cc pc with
      | .ok (i, len) => (match q_nx oc nL fr lo mc na ret ff mod [] Cs n pc len i A with
        | some (k, L) => L.all (fun w => en_sg oc nL fr lo mc na ret ff mod Cs cc Bs f false (n + k) w.1 w.2)
        | none => false)
      | .error _ => false)
/-- a run to places to stop at, over places noted with what grows less -/
def en_sgA (oc nL fr lo mc na : Nat) (ret : Option FieldType) (ff : Nat → List md_T) (mod : List md_T) (Cs : List ct_T) (cc : ByteArray) (an : List an_T) (ss : List (Nat × Nat)) (Bs : List sg_T) : Nat → Bool → Option (List me_T) → Nat → Nat → as_T → Bool
  | 0, _, _, _, _, _ => false
  | f + 1, first, hd, n, pc, A => if !first && Bs.any (fun q => q.1 == pc) then Bs.any (fun q => q.1 == pc && decide (n ≤ q.2.1) && as_sub A q.2.2) else (match (if first then none else an.find? (fun q => q.1 == pc)) with
    | some q => q_arr na hd n A q
    | none => (match (ss.find? (fun w => w.1 == pc)).bind (fun w => q_spl A w.2) with
      | some w => (List.range ((w.2.1.2.2.1 - w.2.1.2.1).toNat + 1)).all (fun t => en_sgA oc nL fr lo mc na ret ff mod Cs cc an ss Bs f first hd n pc (A.1.set w.1 ((0, w.2.1.2.1 + t, w.2.1.2.1 + t, 0), w.2.2), A.2))
      | none => (match decode cc pc with
        | .ok (i, len) => (match q_nx oc nL fr lo mc na ret ff mod [] Cs n pc len i A with
          | some (k, L) => L.all (fun w => en_sgA oc nL fr lo mc na ret ff mod Cs cc an ss Bs f false hd (n + k) w.1 w.2)
          | none => false)
        | .error _ => false)))
def en_chkA (oc nL fr lo mc na : Nat) (ret : Option FieldType) (ff : Nat → List md_T) (mod : List md_T) (Cs : List ct_T) (cc : ByteArray) (an : List an_T) (ss : List (Nat × Nat)) (Bs : List sg_T) (K fuel n pc : Nat) (A : as_T) : Bool :=
  en_sgA oc nL fr lo mc na ret ff mod Cs cc an ss Bs fuel false none n pc A &&
  an.all (fun q => q.2.2.2.length == K && q.2.2.2.all (fun w => w.1 == 0 || decide (w.2.1 < q.2.2.1.1.length)) && en_sgA oc nL fr lo mc na ret ff mod Cs cc an ss Bs fuel true (some q.2.2.2) q.2.1 q.1 q.2.2.1)
/-- a place named: (0, cell, index) or (1, cell, name of an index) -/
def pl_k (c j : Nat) : Bool := match (wd_kd c).1 with
  | 0 => decide (j < (wd_kd c).2)
  | 2 => decide (j < (wd_kd c).2)
  | k + 6 => decide (j < (wd_kd c).2) && fw_fk (fw_ty k j) == 0
  | _ => false
def as_nm (A : as_T) (q : Nat × Nat × Nat) : as_T := match q.1 with
  | 0 => (A.1 ++ [((2, (q.2.1 : Int), (q.2.1 : Int), 0), none), ((0, (q.2.2 : Int), (q.2.2 : Int), 0), none), (rg_find (A.2.2.2.2.2.2.1 ++ wd_gt) q.2.1 q.2.1 (q.2.2, q.2.2, 0), none)], A.2.1, A.2.2.1, (A.1.length, A.1.length + 1, A.1.length + 2) :: A.2.2.2.1, A.2.2.2.2)
  | _ => (A.1 ++ [((2, (q.2.1 : Int), (q.2.1 : Int), 0), none), (rg_find (A.2.2.2.2.2.2.1 ++ wd_gt) q.2.1 q.2.1 (match A.1[q.2.2]? with | some a => pg_of a.1 | none => (0, 0, 0)), none)], A.2.1, A.2.2.1, (A.1.length, q.2.2, A.1.length + 1) :: A.2.2.2.1, A.2.2.2.2)
def pl_ok (A : as_T) (q : Nat × Nat × Nat) : Bool := decide (q.2.1 < 900) && (match q.1 with
  | 0 => decide (q.2.2 < 2147483648) && pl_k q.2.1 q.2.2
  | _ => (match A.1[q.2.2]? with
    | some a => a.1.1 == 0 && decide (0 ≤ a.1.2.1) && ((wd_kd q.2.1).1 == 0 || (wd_kd q.2.1).1 == 2)
    | none => false))
def as_nms : as_T → List (Nat × Nat × Nat) → as_T
  | A, [] => A
  | A, q :: r => as_nms (as_nm A q) r
def pl_oks : as_T → List (Nat × Nat × Nat) → Bool
  | _, [] => true
  | A, q :: r => pl_ok A q && pl_oks (as_nm A q) r
def as_z (A : as_T) (z : Option (List (Nat × Nat × Nat))) : as_T := (A.1, A.2.1, A.2.2.1, A.2.2.2.1, A.2.2.2.2.1, A.2.2.2.2.2.1, A.2.2.2.2.2.2.1, A.2.2.2.2.2.2.2.1, z)
def as_bk (A : as_T) : as_T := (A.1, A.2.1, A.2.2.1, A.2.2.2.1, A.2.2.2.2.1, [], A.2.2.2.2.2.2.1, A.2.2.2.2.2.2.2.1, none)
def as_fl (A : as_T) (f : List Nat) : as_T := (A.1, A.2.1, A.2.2.1, A.2.2.2.1, A.2.2.2.2.1, A.2.2.2.2.2.1, A.2.2.2.2.2.2.1, f ++ A.2.2.2.2.2.2.2.1, A.2.2.2.2.2.2.2.2)
def as_rg (A : as_T) (r : List rg_T) : as_T := (A.1, A.2.1, A.2.2.1, A.2.2.2.1, A.2.2.2.2.1, A.2.2.2.2.2.1, r ++ A.2.2.2.2.2.2.1, A.2.2.2.2.2.2.2.1, A.2.2.2.2.2.2.2.2)
/-- a state's start: places named, writes noted from here on -/
def as_rec (A : as_T) (pl : List (Nat × Nat × Nat)) : as_T := ((as_nms A pl).1, (as_nms A pl).2.1, (as_nms A pl).2.2.1, (as_nms A pl).2.2.2.1, (as_nms A pl).2.2.2.2.1, [], (as_nms A pl).2.2.2.2.2.2.1, (as_nms A pl).2.2.2.2.2.2.2.1, some [])
/-- the number of a name -/
def nv (α : List av_X) (i : Nat) : Int := ((α[i]?).getD (0, 0)).2
def wl_S (α : List av_X) (S0 : fw_S) : List (Nat × Nat × Nat) → fw_S
  | [] => S0
  | q :: r => fw_i (wl_S α S0 r) (nv α q.1).toNat (nv α q.2.1).toNat (Int32.ofInt (nv α q.2.2))
def fx_env (α : List av_X) : Nat → List en_E → Prop
  | _, [] => True
  | i, q :: r => (q.1.2.1 ≤ nv α i ∧ nv α i ≤ q.1.2.2.1 ∧ (match q.2 with | some (b, o) => nv α i = nv α b + o | none => True)) ∧ fx_env α (i + 1) r
def fx_c (fl : fl_T) (S0 : fw_S) (α : List av_X) : List (Nat × Nat × Nat) → Prop
  | [] => True
  | q :: r => (match q.1 / 100000 with
    | 1 => nv α q.2.1 < nv α q.2.2
    | 2 => nv α q.2.1 ≤ nv α q.2.2
    | 3 => nv α q.2.1 = nv α q.2.2
    | 4 => nv α q.2.1 ≠ nv α q.2.2
    | 5 => nv α (q.1 % 100000) = nv α q.2.1 + nv α q.2.2
    | 6 => nv α (q.1 % 100000) = nv α q.2.1 - nv α q.2.2
    | 7 => nv α (q.1 % 100000) = nv α q.2.1 * nv α q.2.2
    | 9 => nv α (q.1 % 100000) = nv α q.2.1 / nv α q.2.2
    | 8 => ct_X S0 (nv α q.2.1).toNat (nv α q.2.2).toNat = some (((α[q.1 % 100000]?).getD (0, 0)).1, nv α (q.1 % 100000))
    | 0 => True
    | 9000 => (nv α (q.1 % 100000) - (nv α q.2.1 + nv α q.2.2)) % 4294967296 = 0
    | 9001 => (nv α (q.1 % 100000) - (nv α q.2.1 - nv α q.2.2)) % 4294967296 = 0
    | 9002 => nv α (q.1 % 100000) = nv α q.2.1 % nv α q.2.2
    | 9010 => tb_at 0 (nv α q.2.1) (nv α (q.1 % 100000))
    | 9011 => tb_at 1 (nv α q.2.1) (nv α (q.1 % 100000))
    | 9012 => tb_at 2 (nv α q.2.1) (nv α (q.1 % 100000))
    | 9013 => tb_at 3 (nv α q.2.1) (nv α (q.1 % 100000))
    | 9014 => tb_at 4 (nv α q.2.1) (nv α (q.1 % 100000))
    | 9015 => tb_at 5 (nv α q.2.1) (nv α (q.1 % 100000))
    | 9016 => tb_at 6 (nv α q.2.1) (nv α (q.1 % 100000))
    | 9017 => tb_at 7 (nv α q.2.1) (nv α (q.1 % 100000))
    | 9018 => tb_at 8 (nv α q.2.1) (nv α (q.1 % 100000))
    | 9019 => tb_at 9 (nv α q.2.1) (nv α (q.1 % 100000))
    | c => fl c (nv α (q.1 % 100000)) (nv α q.2.1) (nv α q.2.2) S0) ∧ fx_c fl S0 α r
def fx_ne (α : List av_X) : List (Nat × Int) → Prop
  | [] => True
  | q :: r => nv α q.1 ≠ q.2 ∧ fx_ne α r
def fx_hf (α : List av_X) (S : fw_S) (e : List en_E) : List (Nat × Nat × Nat) → Prop
  | [] => True
  | q :: r => (match e[q.2.2]? with | some a => (if a.1.1 = 0 then (S.1 (nv α q.1).toNat (nv α q.2.1).toNat).toInt = nv α q.2.2 else True) | none => True) ∧ fx_hf α S e r
section HB
variable {p : Program} {l : Launch} {e0 : Env} {s0 : State} {m : MethodId} {args : Array Value} {below : List Frame} {meth : Method} {c0 : Code} {Q : State → Prop}
variable {D : va_G} {tc : Nat → ClassId} {ad : Nat → Nat} {kd : Nat → Nat × Nat} {N nL : Nat} {own : String} {cc : ByteArray} {sm : Nat → Nat}
variable {fl : fl_T} {ff : Nat → List md_T} {α0 : List av_X} {S0 : fw_S} {mod : List md_T} {α : List av_X} {A A' B : as_T} {lv : List (Nat × Value)} {st : List Value} {S : fw_S} {pc n : Nat}
variable {oc fr lo mc na : Nat} {ret : Option FieldType} {cs : List cs_T} {Cs : List ct_T} {sz : Nat}
theorem nv_at {i : Nat} {x : av_X} (h : α[i]? = some x) : nv α i = x.2 := by unfold nv; rw [h]; rfl
theorem nv_le {β : List av_X} {i : Nat} (h : al_le α β) (hi : i < α.length) : nv β i = nv α i := by
  have h1 : α[i]? = some α[i] := List.getElem?_eq_getElem hi
  rw [nv_at (h _ _ h1), nv_at h1]
theorem as_sub_in (h : as_sub A B = true) (H : as_in ad sm fl α0 S0 mod α A lv st S) : as_in ad sm fl α0 S0 mod α B lv st S := by
  simp only [as_sub, Bool.and_eq_true, decide_eq_true_eq] at h
  obtain ⟨⟨⟨⟨⟨⟨⟨⟨⟨c1, c2⟩, c3⟩, c4⟩, c5⟩, c6⟩, c7⟩, c8⟩, c9⟩, c10⟩ := h
  have H' := H
  obtain ⟨h1, h2, h3, h4, h5, h6, h7, h8, h9, h10, h11, h12⟩ := H
  refine ⟨h1, ⟨h2.1.trans c1, fun i q hq => ?_⟩, fun q hq => h3 q (by simpa using List.all_eq_true.mp c3 q hq), by rw [← c4]; exact h4, fun q hq => h5 q (by simpa using List.all_eq_true.mp c5 q hq), fun q hq => h6 q (by simpa using List.all_eq_true.mp c6 q hq), fun q hq => h7 q (by simpa using List.all_eq_true.mp c7 q hq), fun r hr => q_rg_in (List.all_eq_true.mp c8 r hr) H', fun g hg => h9 g (by simpa using List.all_eq_true.mp c9 g hg), h10, h11, ?_⟩
  · have hi : i < A.1.length := by rw [c1]; exact (List.getElem?_eq_some_iff.mp hq).1
    have ha : A.1[i]? = some A.1[i] := List.getElem?_eq_getElem hi
    obtain ⟨x, x1, x2, x3⟩ := h2.2 i _ ha
    have hz : (A.1.zip B.1)[i]? = some (A.1[i], q) := by
      rw [List.getElem?_zip_eq_some]
      exact ⟨ha, hq⟩
    have h5 := List.all_eq_true.mp c2 _ (List.mem_of_getElem? hz)
    rw [Bool.and_eq_true, Bool.or_eq_true, decide_eq_true_eq] at h5
    refine ⟨x, x1, av_le_in h5.1 x2, fun b o hb => ?_⟩
    rcases h5.2 with g | g
    · dsimp only at g
      rw [hb] at g
      cases g
    · exact x3 b o (g.trans hb)
  · rw [Bool.or_eq_true, decide_eq_true_eq] at c10
    rcases c10 with g | g
    · rw [Option.isNone_iff_eq_none.mp g]
      trivial
    · rw [← g]
      exact h12
theorem en_sg_in (C0 : fw_C p s0 m args meth c0 D tc (fw_Af ad N sz) own cc nL) (hSt : fw_St sm (fw_Af ad N sz) s0 s0.heap) (hK : kd_okl l kd N) (hfl : fl_ok ff fl) (ho : own = lk_own oc) (hx : ∀ x ∈ c0.exceptionTable.toList, False) (hna : α0.length = na) (hCs : ∀ Cc ∈ Cs, ct_ok fl Cc)
    {Bs : List sg_T} (hA : ∀ q ∈ Bs, ∀ (β : List av_X) (lv : List (Nat × Value)) (st : List Value) (S : fw_S), as_in ad sm fl α0 S0 mod β q.2.2 lv st S → fw_W p l e0 (fw_rm fr lo mc) s0 m args below meth c0 Q D tc ad kd N nL (fw_Af ad N sz) q.1 lv st S q.2.1) :
    ∀ (f : Nat) (first : Bool) (n pc : Nat) (A : as_T), en_sg oc nL fr lo mc na ret ff mod Cs cc Bs f first n pc A = true → ∀ (β : List av_X) (lv : List (Nat × Value)) (st : List Value) (S : fw_S), as_in ad sm fl α0 S0 mod β A lv st S → fw_W p l e0 (fw_rm fr lo mc) s0 m args below meth c0 Q D tc ad kd N nL (fw_Af ad N sz) pc lv st S n
  | 0, _, _, _, _, h => by cases h
  | f + 1, first, n, pc, A, h => by
    intro β lv st S H
    rw [en_sg] at h
    split at h
    · obtain ⟨q, q1, q2⟩ := List.any_eq_true.mp h
      simp only [Bool.and_eq_true, decide_eq_true_eq, beq_iff_eq] at q2
      have := hA q q1 β lv st S (as_sub_in q2.2 H)
      rw [q2.1.1] at this
      exact fw_W_mono q2.1.2 this
    · split at h
      · rename_i i len hdg
        split at h
        · rename_i k L hL
          have hk : ∀ w ∈ L, ∀ (β' : List av_X) (lv : List (Nat × Value)) (st : List Value) (S : fw_S), al_le β β' → as_in ad sm fl α0 S0 mod β' w.2 lv st S → fw_W p l e0 (fw_rm fr lo mc) s0 m args below meth c0 Q D tc ad kd N nL (fw_Af ad N sz) w.1 lv st S (n + k) :=
            fun w hw β' lv' st' S' _ b2 => en_sg_in C0 hSt hK hfl ho hx hna hCs hA f false (n + k) w.1 w.2 (List.all_eq_true.mp h w hw) β' lv' st' S' b2
          have hno : ∀ (rest : List Value) (S' : fw_S) (E : String) (n' : Nat), n' ≤ mc → ct_post ad sm fl mod [] α0 S0 (.inr E) S' → fw_T p l e0 (fw_rm fr lo mc) s0 m args below meth c0 Q D tc ad kd N nL (fw_Af ad N sz) pc lv rest S' n' E := fun _ _ _ _ _ hp => by
            obtain ⟨q, q1, -⟩ := hp
            cases q1
          unfold q_nx at hL
          split at hL
          · split at hL
            · rename_i hc
              exact absurd hc.2.2 (by unfold q_eI; (repeat' split) <;> simp)
            · cases hL
          · split at hL
            · rename_i hc
              exact absurd hc.2.2 (by unfold q_eL; (repeat' split) <;> simp)
            · cases hL
          · split at hL
            · rename_i hc
              exact absurd hc.2.2 (by unfold q_eA; (repeat' split) <;> simp)
            · cases hL
          · split at hL
            · rename_i hc
              exact absurd hc.2.2 (by unfold q_eV; (repeat' split) <;> simp)
            · cases hL
          · split at hL
            · rename_i hl
              subst hl
              exact sp_inv (vir := true) C0 hSt hK hfl ho hx hna hCs hdg hL H hno hk
            · cases hL
          · split at hL
            · rename_i hl
              subst hl
              split at hL
              · rename_i r hr
                cases hL
                exact sp_inv (vir := false) C0 hSt hK hfl ho hx hna hCs hdg hr H hno hk
              · split at hL
                · rename_i L' hL'
                  cases hL
                  exact sp_step rfl C0 hSt hK.1 hfl ho hdg hL' H (fun q hq β lv st S b1 b2 => hk q hq β lv st S b1 b2)
                · cases hL
            · cases hL
          · split at hL
            · rename_i L' hL'
              cases hL
              exact sp_step rfl C0 hSt hK.1 hfl ho hdg hL' H (fun q hq β lv st S b1 b2 => hk q hq β lv st S b1 b2)
            · cases hL
        · cases h
      · cases h
theorem en_sgA_in (C0 : fw_C p s0 m args meth c0 D tc (fw_Af ad N sz) own cc nL) (hSt : fw_St sm (fw_Af ad N sz) s0 s0.heap) (hK : kd_okl l kd N) (hfl : fl_ok ff fl) (ho : own = lk_own oc) (hx : ∀ x ∈ c0.exceptionTable.toList, False) (hna : α0.length = na) (hCs : ∀ Cc ∈ Cs, ct_ok fl Cc)
    {an : List an_T} {ss : List (Nat × Nat)} {hd : Option (List me_T)} {αh : List av_X} (hhd : ∀ ms, hd = some ms → ∀ w ∈ ms, w.1 = 0 ∨ w.2.1 < αh.length)
    (hN : ∀ q ∈ an, ∀ (α : List av_X) (lv : List (Nat × Value)) (st : List Value) (S : fw_S), as_in ad sm fl α0 S0 mod α q.2.2.1 lv st S → (∀ ms, hd = some ms → lx (q.2.2.2.map (me_val α)) (ms.map (me_val αh))) → fw_W p l e0 (fw_rm fr lo mc) s0 m args below meth c0 Q D tc ad kd N nL (fw_Af ad N sz) q.1 lv st S q.2.1)
    {Bs : List sg_T} (hA : ∀ q ∈ Bs, ∀ (β : List av_X) (lv : List (Nat × Value)) (st : List Value) (S : fw_S), as_in ad sm fl α0 S0 mod β q.2.2 lv st S → fw_W p l e0 (fw_rm fr lo mc) s0 m args below meth c0 Q D tc ad kd N nL (fw_Af ad N sz) q.1 lv st S q.2.1) :
    ∀ (f : Nat) (first : Bool) (n pc : Nat) (A : as_T), en_sgA oc nL fr lo mc na ret ff mod Cs cc an ss Bs f first hd n pc A = true → ∀ (β : List av_X) (lv : List (Nat × Value)) (st : List Value) (S : fw_S), al_le αh β → as_in ad sm fl α0 S0 mod β A lv st S → fw_W p l e0 (fw_rm fr lo mc) s0 m args below meth c0 Q D tc ad kd N nL (fw_Af ad N sz) pc lv st S n
  | 0, _, _, _, _, h => by cases h
  | f + 1, first, n, pc, A, h => by
    intro β lv st S hle H
    rw [en_sgA] at h
    split at h
    · obtain ⟨q, q1, q2⟩ := List.any_eq_true.mp h
      simp only [Bool.and_eq_true, decide_eq_true_eq, beq_iff_eq] at q2
      have := hA q q1 β lv st S (as_sub_in q2.2 H)
      rw [q2.1.1] at this
      exact fw_W_mono q2.1.2 this
    · split at h
      · rename_i q hq
        have hq2 : an.find? (fun q => q.1 == pc) = some q := by
          cases first with
          | true => cases hq
          | false => exact hq
        obtain ⟨h1, h2, h3⟩ := q_arr_in h H hna hle hhd
        have hpc : q.1 = pc := by simpa using List.find?_some hq2
        have := hN q (List.mem_of_find?_eq_some hq2) _ lv st S h2 h3
        rw [hpc] at this
        exact fw_W_mono h1 this
      · split at h
        · rename_i w hw
          obtain ⟨sq, s1, s2⟩ := Option.bind_eq_some_iff.mp hw
          unfold q_spl at s2
          split at s2
          · split at s2
            · rename_i i _ _ a ha
              split at s2
              · rename_i hc
                cases s2
                obtain ⟨⟨ky, my⟩, y1, y2, -⟩ := H.2.1.2 i a ha
                have l1 := y2.2.2.1
                have l2 := y2.2.2.2.1
                dsimp only at l1 l2
                have hb : (((my - a.1.2.1).toNat : Nat) : Int) = my - a.1.2.1 := by omega
                have h3 := List.all_eq_true.mp h (my - a.1.2.1).toNat (List.mem_range.mpr (by dsimp only; omega))
                dsimp only at h3
                rw [hb, show a.1.2.1 + (my - a.1.2.1) = my by omega] at h3
                refine en_sgA_in C0 hSt hK hfl ho hx hna hCs hhd hN hA f first n pc _ h3 β lv st S hle (as_set H y1 ha ?_)
                have hy := y2.2.1
                have hk0 : ky = 0 := y2.1.trans hc.1
                subst hk0
                exact ⟨rfl, hy, Int.le_refl _, Int.le_refl _, by rw [Int.sub_self]; exact Int.dvd_zero _⟩
              · cases s2
            · cases s2
          · cases s2
        · split at h
          · rename_i i len hdg
            split at h
            · rename_i k L hL
              have hk : ∀ w ∈ L, ∀ (β' : List av_X) (lv : List (Nat × Value)) (st : List Value) (S : fw_S), al_le β β' → as_in ad sm fl α0 S0 mod β' w.2 lv st S → fw_W p l e0 (fw_rm fr lo mc) s0 m args below meth c0 Q D tc ad kd N nL (fw_Af ad N sz) w.1 lv st S (n + k) :=
                fun w hw β' lv' st' S' b1 b2 => en_sgA_in C0 hSt hK hfl ho hx hna hCs hhd hN hA f false (n + k) w.1 w.2 (List.all_eq_true.mp h w hw) β' lv' st' S' (hle.trans b1) b2
              have hno : ∀ (rest : List Value) (S' : fw_S) (E : String) (n' : Nat), n' ≤ mc → ct_post ad sm fl mod [] α0 S0 (.inr E) S' → fw_T p l e0 (fw_rm fr lo mc) s0 m args below meth c0 Q D tc ad kd N nL (fw_Af ad N sz) pc lv rest S' n' E := fun _ _ _ _ _ hp => by
                obtain ⟨q, q1, -⟩ := hp
                cases q1
              unfold q_nx at hL
              split at hL
              · split at hL
                · rename_i hc
                  exact absurd hc.2.2 (by unfold q_eI; (repeat' split) <;> simp)
                · cases hL
              · split at hL
                · rename_i hc
                  exact absurd hc.2.2 (by unfold q_eL; (repeat' split) <;> simp)
                · cases hL
              · split at hL
                · rename_i hc
                  exact absurd hc.2.2 (by unfold q_eA; (repeat' split) <;> simp)
                · cases hL
              · split at hL
                · rename_i hc
                  exact absurd hc.2.2 (by unfold q_eV; (repeat' split) <;> simp)
                · cases hL
              · split at hL
                · rename_i hl
                  subst hl
                  exact sp_inv (vir := true) C0 hSt hK hfl ho hx hna hCs hdg hL H hno hk
                · cases hL
              · split at hL
                · rename_i hl
                  subst hl
                  split at hL
                  · rename_i r hr
                    cases hL
                    exact sp_inv (vir := false) C0 hSt hK hfl ho hx hna hCs hdg hr H hno hk
                  · split at hL
                    · rename_i L' hL'
                      cases hL
                      exact sp_step rfl C0 hSt hK.1 hfl ho hdg hL' H (fun q hq β lv st S b1 b2 => hk q hq β lv st S b1 b2)
                    · cases hL
                · cases hL
              · split at hL
                · rename_i L' hL'
                  cases hL
                  exact sp_step rfl C0 hSt hK.1 hfl ho hdg hL' H (fun q hq β lv st S b1 b2 => hk q hq β lv st S b1 b2)
                · cases hL
            · cases h
          · cases h
theorem pl_k_in {c j : Nat} (h : pl_k c j = true) : ct_X S c j = some (0, (S.1 c j).toInt) := by
  unfold pl_k at h
  split at h
  · rename_i hk; exact ct_0 (z := 0) (n0 := (wd_kd c).2) (by rw [← hk]) (Or.inl rfl)
  · rename_i hk; exact ct_0 (z := 2) (n0 := (wd_kd c).2) (by rw [← hk]) (Or.inr rfl)
  · rename_i k hk
    rw [Bool.and_eq_true, beq_iff_eq] at h
    exact ct_f0 (ci := k) (n0 := (wd_kd c).2) (Prod.ext hk rfl) h.2
  · cases h
theorem pg_one {j : Nat} : pg_in (j, j, 0) j := ⟨Nat.le_refl _, Nat.le_refl _, by rw [Nat.sub_self]; exact Nat.dvd_refl _⟩
theorem as_nm_in {q : Nat × Nat × Nat} (h : pl_ok A q = true) (H : as_in ad sm fl α0 S0 mod α A lv st S) : ∃ α', al_le α α' ∧ as_in ad sm fl α0 S0 mod α' (as_nm A q) lv st S := by
  obtain ⟨z, c, j⟩ := q
  have hlen := H.2.1.1
  have hrg : ∀ q ∈ A.2.2.2.2.2.2.1 ++ wd_gt, rg_in S q := fun q hq => by
    rcases List.mem_append.mp hq with g | g
    · exact H.2.2.2.2.2.2.2.1 q g
    · exact H.2.2.2.2.2.2.2.2.2.1.1 q g
  rw [pl_ok, Bool.and_eq_true, decide_eq_true_eq] at h
  obtain ⟨hc, h⟩ := h
  dsimp only at hc h
  have r1 : av_in ((2, (c : Int), (c : Int), 0) : av_T) (2, (c : Int)) := ⟨rfl, by show (0 : Int) ≤ (c : Int); omega, Int.le_refl _, Int.le_refl _, by dsimp only; rw [Int.sub_self]; exact Int.dvd_zero _⟩
  match z, h with
  | 0, h =>
    replace h : (decide (j < 2147483648) && pl_k c j) = true := h
    rw [Bool.and_eq_true, decide_eq_true_eq] at h
    have r2 : av_in ((0, (j : Int), (j : Int), 0) : av_T) (0, (j : Int)) := ⟨rfl, ⟨by dsimp only; omega, by dsimp only; omega⟩, Int.le_refl _, Int.le_refl _, by dsimp only; rw [Int.sub_self]; exact Int.dvd_zero _⟩
    have r3 : av_in (rg_find (A.2.2.2.2.2.2.1 ++ wd_gt) c c (j, j, 0)) (0, (S.1 c j).toInt) := rg_find_in hrg (Nat.le_refl _) (Nat.le_refl _) pg_one
    have H1 := as_new (d := none) (as_q H rfl) r1 (fun _ _ q => by cases q)
    have H2 := as_new (d := none) H1 r2 (fun _ _ q => by cases q)
    have H3 := as_new (d := none) H2 r3 (fun _ _ q => by cases q)
    have e1 : (α ++ [(2, (c : Int))])[A.1.length]? = some (2, (c : Int)) := by rw [← hlen]; exact al_last
    have e2 : ((α ++ [(2, (c : Int))]) ++ [(0, (j : Int))])[A.1.length + 1]? = some (0, (j : Int)) := by
      rw [← hlen, show α.length + 1 = (α ++ [((2 : Nat), (c : Int))]).length by simp]; exact al_last
    have e3 : (((α ++ [(2, (c : Int))]) ++ [(0, (j : Int))]) ++ [(0, (S.1 c j).toInt)])[A.1.length + 2]? = some (0, (S.1 c j).toInt) := by
      rw [← hlen, show α.length + 2 = ((α ++ [((2 : Nat), (c : Int))]) ++ [((0 : Nat), (j : Int))]).length by simp]; exact al_last
    refine ⟨((α ++ [(2, (c : Int))]) ++ [(0, (j : Int))]) ++ [(0, (S.1 c j).toInt)], (al_le_app.trans al_le_app).trans al_le_app, ?_⟩
    have H4 := as_hf (q := (A.1.length, A.1.length + 1, A.1.length + 2)) H3 ⟨(c : Int), (j : Int), (0, (S.1 c j).toInt), al_le_app _ _ (al_le_app _ _ e1), al_le_app _ _ e2, e3, by omega, by omega, by
      rw [show ((c : Int)).toNat = c by omega, show ((j : Int)).toNat = j by omega]; exact pl_k_in h.2⟩
    have e4 : ((A.1 ++ [(((2, (c : Int), (c : Int), 0) : av_T), (none : Option (Nat × Int)))]) ++ [((0, (j : Int), (j : Int), 0), none)]) ++ [(rg_find (A.2.2.2.2.2.2.1 ++ wd_gt) c c (j, j, 0), none)] = A.1 ++ [((2, (c : Int), (c : Int), 0), none), ((0, (j : Int), (j : Int), 0), none), (rg_find (A.2.2.2.2.2.2.1 ++ wd_gt) c c (j, j, 0), none)] := by simp
    dsimp only at H4
    rw [e4] at H4
    exact H4
  | z + 1, h =>
    replace h : (match A.1[j]? with | some a => a.1.1 == 0 && decide (0 ≤ a.1.2.1) && ((wd_kd c).1 == 0 || (wd_kd c).1 == 2) | none => false) = true := h
    split at h
    · rename_i a ha
      simp only [Bool.and_eq_true, Bool.or_eq_true, decide_eq_true_eq, beq_iff_eq] at h
      obtain ⟨⟨h1, h2⟩, h3⟩ := h
      obtain ⟨x, x1, x2, -⟩ := H.2.1.2 j a ha
      obtain ⟨k, i⟩ := x
      have hk : k = 0 := x2.1.trans h1
      subst hk
      have hi : 0 ≤ i := Int.le_trans h2 x2.2.2.1
      have hp := pg_of_in x2 h2
      have r3 : av_in (rg_find (A.2.2.2.2.2.2.1 ++ wd_gt) c c (pg_of a.1)) (0, (S.1 c i.toNat).toInt) := rg_find_in hrg (Nat.le_refl _) (Nat.le_refl _) hp
      have H1 := as_new (d := none) (as_q H rfl) r1 (fun _ _ q => by cases q)
      have H3 := as_new (d := none) H1 r3 (fun _ _ q => by cases q)
      have e1 : (α ++ [(2, (c : Int))])[A.1.length]? = some (2, (c : Int)) := by rw [← hlen]; exact al_last
      have e3 : ((α ++ [(2, (c : Int))]) ++ [(0, (S.1 c i.toNat).toInt)])[A.1.length + 1]? = some (0, (S.1 c i.toNat).toInt) := by
        rw [← hlen, show α.length + 1 = (α ++ [((2 : Nat), (c : Int))]).length by simp]; exact al_last
      refine ⟨(α ++ [(2, (c : Int))]) ++ [(0, (S.1 c i.toNat).toInt)], al_le_app.trans al_le_app, ?_⟩
      have H4 := as_hf (q := (A.1.length, j, A.1.length + 1)) H3 ⟨(c : Int), i, (0, (S.1 c i.toNat).toInt), al_le_app _ _ e1, al_le_app _ _ (al_le_app _ _ x1), e3, by omega, hi, by
        rw [show ((c : Int)).toNat = c by omega]
        rcases h3 with g | g
        · exact ct_0 (z := 0) (n0 := (wd_kd c).2) (by rw [← g]) (Or.inl rfl)
        · exact ct_0 (z := 2) (n0 := (wd_kd c).2) (by rw [← g]) (Or.inr rfl)⟩
      have e4 : (A.1 ++ [(((2, (c : Int), (c : Int), 0) : av_T), (none : Option (Nat × Int)))]) ++ [(rg_find (A.2.2.2.2.2.2.1 ++ wd_gt) c c (pg_of a.1), none)] = A.1 ++ [((2, (c : Int), (c : Int), 0), none), (rg_find (A.2.2.2.2.2.2.1 ++ wd_gt) c c (pg_of a.1), none)] := by simp
      dsimp only at H4
      rw [e4] at H4
      show as_in ad sm fl α0 S0 mod _ (A.1 ++ [((2, (c : Int), (c : Int), 0), none), (rg_find (A.2.2.2.2.2.2.1 ++ wd_gt) c c (match A.1[j]? with | some a => pg_of a.1 | none => (0, 0, 0)), none)], A.2.1, A.2.2.1, (A.1.length, j, A.1.length + 1) :: A.2.2.2.1, A.2.2.2.2) lv st S
      rw [ha]
      exact H4
    · cases h
theorem as_nms_in : ∀ {pl : List (Nat × Nat × Nat)} {A : as_T} {α : List av_X}, pl_oks A pl = true → as_in ad sm fl α0 S0 mod α A lv st S → ∃ α', al_le α α' ∧ as_in ad sm fl α0 S0 mod α' (as_nms A pl) lv st S
  | [], A, α, _, H => ⟨α, al_le.refl, H⟩
  | q :: r, A, α, h, H => by
    rw [pl_oks, Bool.and_eq_true] at h
    obtain ⟨α1, h1, H1⟩ := as_nm_in h.1 H
    obtain ⟨α2, h2, H2⟩ := as_nms_in h.2 H1
    exact ⟨α2, h1.trans h2, H2⟩
/-- from here on -/
theorem as_rec_in {pl : List (Nat × Nat × Nat)} (h : pl_oks A pl = true) (H : as_in ad sm fl α0 S0 mod α A lv st S) : ∃ α', al_le α α' ∧ as_in ad sm fl α' S mod α' (as_rec A pl) lv st S := by
  obtain ⟨α1, h1, H1⟩ := as_nms_in h H
  refine ⟨α1, h1, ?_⟩
  obtain ⟨g1, g2, g3, g4, g5, g6, g7, g8, g9, g10, g11, g12⟩ := H1
  exact ⟨al_le.refl, g2, g3, g4, g5, g6, fun q hq => by (exfalso; exact List.not_mem_nil hq), g8, g9, g10, ⟨fun _ _ _ => ⟨rfl, rfl⟩, rfl⟩, rfl⟩
/-- seen from the method's start again -/
theorem as_back {xs : List av_X} {Se : fw_S} (H : as_in ad sm fl α0 S0 mod α A lv st S) (hle : al_le xs α0) (hf : fr_in mod Se S0) : as_in ad sm fl xs Se mod α (as_bk A) lv st S := by
  obtain ⟨g1, g2, g3, g4, g5, g6, g7, g8, g9, g10, g11, g12⟩ := H
  refine ⟨hle.trans g1, g2, g3, g4, g5, g6, fun q hq => by (exfalso; exact List.not_mem_nil hq), g8, g9, g10, ⟨fun k j hk => ?_, g11.2.trans hf.2⟩, trivial⟩
  obtain ⟨a1, a2⟩ := g11.1 k j hk
  obtain ⟨b1, b2⟩ := hf.1 k j hk
  exact ⟨a1.trans b1, a2.trans b2⟩
theorem as_fl_in {f : List Nat} (H : as_in ad sm fl α0 S0 mod α A lv st S) (hf : ∀ g ∈ f, fl g 0 0 0 S) : as_in ad sm fl α0 S0 mod α (as_fl A f) lv st S := by
  obtain ⟨g1, g2, g3, g4, g5, g6, g7, g8, g9, g10, g11, g12⟩ := H
  exact ⟨g1, g2, g3, g4, g5, g6, g7, g8, fun q hq => (List.mem_append.mp hq).elim (hf q) (g9 q), g10, g11, g12⟩
theorem as_rg_in {r : List rg_T} (H : as_in ad sm fl α0 S0 mod α A lv st S) (hr : ∀ q ∈ r, rg_in S q) : as_in ad sm fl α0 S0 mod α (as_rg A r) lv st S := by
  obtain ⟨g1, g2, g3, g4, g5, g6, g7, g8, g9, g10, g11, g12⟩ := H
  exact ⟨g1, g2, g3, g4, g5, g6, g7, fun q hq => (List.mem_append.mp hq).elim (hr q) (g8 q), g9, g10, g11, g12⟩
/-- what a state says, in numbers -/
theorem fx_env_in : ∀ (e : List en_E) (i : Nat), (∀ (k : Nat) (q : en_E), e[k]? = some q → ∃ x, α[i + k]? = some x ∧ av_in q.1 x ∧ ∀ b o, q.2 = some (b, o) → x.1 = 0 ∧ ∃ y, α[b]? = some y ∧ y.1 = 0 ∧ x.2 = y.2 + o) → fx_env α i e
  | [], _, _ => trivial
  | q :: r, i, h => by
    obtain ⟨x, x1, x2, x3⟩ := h 0 q rfl
    rw [Nat.add_zero] at x1
    refine ⟨⟨by rw [nv_at x1]; exact x2.2.2.1, by rw [nv_at x1]; exact x2.2.2.2.1, ?_⟩, fx_env_in r (i + 1) (fun k q' hq => by
      obtain ⟨x', y1, y2⟩ := h (k + 1) q' hq
      exact ⟨x', by rw [show i + 1 + k = i + (k + 1) by omega]; exact y1, y2⟩)⟩
    split
    · rename_i b o hb
      obtain ⟨-, y, y1, -, y3⟩ := x3 b o hb
      rw [nv_at x1, nv_at y1]
      exact y3
    · trivial
theorem fx_c_in : ∀ (c : List (Nat × Nat × Nat)), (∀ q ∈ c, lc_in fl S0 α q) → fx_c fl S0 α c
  | [], _ => trivial
  | q :: r, h => by
    refine ⟨?_, fx_c_in r (fun w hw => h w (List.mem_cons_of_mem _ hw))⟩
    have h1 := h q List.mem_cons_self
    unfold lc_in at h1
    by_cases hq : q.1 < 100000
    · have : q.1 / 100000 = 0 := by omega
      rw [this]
      trivial
    · rw [if_neg hq] at h1
      obtain ⟨x, y, h1, h2, h3⟩ := h1
      rw [nv_at h1, nv_at h2]
      generalize q.1 / 100000 = c at h3 ⊢
      match c, h3 with
      | 0, _ => trivial
      | 1, h3 => exact h3
      | 2, h3 => exact h3
      | 3, h3 => exact h3
      | 4, h3 => exact h3
      | 5, h3 => show nv α (q.1 % 100000) = x.2 + y.2; rw [nv_at h3]
      | 6, h3 => show nv α (q.1 % 100000) = x.2 - y.2; rw [nv_at h3]
      | 7, h3 => show nv α (q.1 % 100000) = x.2 * y.2; rw [nv_at h3]
      | 8, h3 =>
        obtain ⟨z, z1, z2⟩ := h3
        show ct_X S0 x.2.toNat y.2.toNat = some (((α[q.1 % 100000]?).getD (0, 0)).1, nv α (q.1 % 100000))
        rw [nv_at z1, z1]
        exact z2
      | 9, h3 => show nv α (q.1 % 100000) = x.2 / y.2; rw [nv_at h3]
      | k + 10, h3 =>
        by_cases k0 : k = 8990
        · subst k0
          obtain ⟨z, z1, z2⟩ := h3
          show (nv α (q.1 % 100000) - (x.2 + y.2)) % 4294967296 = 0
          rw [nv_at z1]
          exact z2
        by_cases k1 : k = 8991
        · subst k1
          obtain ⟨z, z1, z2⟩ := h3
          show (nv α (q.1 % 100000) - (x.2 - y.2)) % 4294967296 = 0
          rw [nv_at z1]
          exact z2
        by_cases k2 : k = 8992
        · subst k2
          show nv α (q.1 % 100000) = x.2 % y.2
          rw [nv_at h3]
        by_cases k9 : 9000 ≤ k
        · have hz : ∃ z : Int, α[q.1 % 100000]? = some (0, z) ∧ tb_at (k + 10 - 9010) x.2 z := by
            split at h3 <;> first | omega | skip
            obtain ⟨z, z1, z2⟩ := h3
            rw [if_pos (by omega)] at z2
            exact ⟨z, z1, z2⟩
          obtain ⟨z, z1, z2⟩ := hz
          have hlt : k < 9010 := by
            obtain ⟨q', hq', -⟩ := z2
            have h9 := (List.getElem?_eq_some_iff.mp hq').1
            have hl : fw_sn.length = 10 := rfl
            omega
          have hc : k = 9000 ∨ k = 9001 ∨ k = 9002 ∨ k = 9003 ∨ k = 9004 ∨ k = 9005 ∨ k = 9006 ∨ k = 9007 ∨ k = 9008 ∨ k = 9009 := by omega
          rcases hc with rfl | rfl | rfl | rfl | rfl | rfl | rfl | rfl | rfl | rfl <;>
            (show tb_at _ x.2 (nv α (q.1 % 100000))
             rw [nv_at z1]
             exact z2)
        split at h3 <;> first | omega | skip
        obtain ⟨z, z1, z2⟩ := h3
        rw [if_neg (by omega)] at z2
        split <;> first | omega | skip
        show fl (k + 10) (nv α (q.1 % 100000)) x.2 y.2 S0
        rw [nv_at z1]
        exact z2
theorem fx_ne_in : ∀ (c : List (Nat × Int)), (∀ q ∈ c, ∃ x, α[q.1]? = some x ∧ x.2 ≠ q.2) → fx_ne α c
  | [], _ => trivial
  | q :: r, h => by
    refine ⟨?_, fx_ne_in r (fun w hw => h w (List.mem_cons_of_mem _ hw))⟩
    obtain ⟨x, x1, x2⟩ := h q List.mem_cons_self
    rw [nv_at x1]
    exact x2
theorem fx_hf_in {e : List en_E} (he : en_in α e) : ∀ (c : List (Nat × Nat × Nat)), (∀ q ∈ c, hf_in α S q) → fx_hf α S e c
  | [], _ => trivial
  | q :: r, h => by
    refine ⟨?_, fx_hf_in he r (fun w hw => h w (List.mem_cons_of_mem _ hw))⟩
    obtain ⟨k, j, x, h1, h2, h3, h4, h5, h6⟩ := h q List.mem_cons_self
    obtain ⟨a, a1, a2, -⟩ := en_some he h3
    rw [a1]
    dsimp only
    split
    · rename_i hk
      have := ct_X_int h6 (a2.1.trans hk)
      rw [nv_at h1, nv_at h2, nv_at h3, this]
    · trivial
theorem fx_at {q : Nat × Nat × Nat} {a : en_E} (H : as_in ad sm fl α0 S0 mod α A lv st S) (hq : A.2.2.2.1.contains q = true) (ha : A.1[q.2.2]? = some a) (h0 : a.1.1 = 0) {c : Nat} (hc : nv α q.1 = (c : Int)) : (S.1 c (nv α q.2.1).toNat).toInt = nv α q.2.2 := by
  obtain ⟨k, j, x, h1, h2, h3, h4, h5, h6⟩ := H.2.2.2.2.1 q (by simpa using hq)
  obtain ⟨a', a1, a2, -⟩ := en_some H.2.1 h3
  cases a1.symm.trans ha
  have := ct_X_int h6 (a2.1.trans h0)
  rw [nv_at h1] at hc
  rw [nv_at h2, nv_at h3, this]
  have e : k.toNat = c := by dsimp only at hc; omega
  rw [e]
theorem wl_eq : ∀ (L : List (Nat × Nat × Nat)) (S : fw_S), wl_in α S0 L S → S = wl_S α S0 L
  | [], _, h => h
  | q :: r, S, ⟨S1, k, j, v, h1, h2, h3, h4, h5⟩ => by
    rw [h5, wl_S, nv_at h2, nv_at h3, nv_at h4, ← wl_eq r S1 h1]
/-- all of it -/
theorem as_fx (H : as_in ad sm fl α0 S0 mod α A lv st S) : fx_env α 0 A.1 ∧ fx_c fl S0 α A.2.2.2.2.2.1 ∧ fx_ne α A.2.2.2.2.1 ∧ fx_hf α S A.1 A.2.2.2.1 ∧ (match A.2.2.2.2.2.2.2.2 with | some L => S = wl_S α S0 L | none => True) := by
  refine ⟨fx_env_in A.1 0 (fun k q hq => by rw [Nat.zero_add]; exact H.2.1.2 k q hq), fx_c_in _ H.2.2.2.2.2.2.1, fx_ne_in _ H.2.2.2.2.2.1, fx_hf_in H.2.1 _ H.2.2.2.2.1, ?_⟩
  have h := H.2.2.2.2.2.2.2.2.2.2.2
  split
  · rename_i L hL
    rw [hL] at h
    exact wl_eq _ _ h
  · trivial
end HB
/-- a contract's end may be weaker -/
theorem fw_Met_mono {l : Launch} {y : MethodName} {cc : ByteArray} {maxL : Nat} {ret : Option FieldType} {fr lo mc : Nat} {D : va_G} {tc : Nat → ClassId} {ad : Nat → Nat} {kd : Nat → Nat × Nat} {N : Nat} {st : Nat → Nat} {av : List Value} {S : fw_S} {P1 P2 : fw_O → fw_S → Prop}
    (h : fw_Met l y cc maxL ret fr lo mc D tc ad kd N st av S P1) (hP : ∀ oc S', P1 oc S' → P2 oc S') : fw_Met l y cc maxL ret fr lo mc D tc ad kd N st av S P2 := by
  intro sz p e h1 h2 h3 s m args below a b c d
  obtain ⟨n, o, g1, g2, g3, g4⟩ := h sz p e h1 h2 h3 s m args below a b c d
  refine ⟨n, o, g1, g2, g3, ?_⟩
  rcases g4 with ⟨⟨⟨r, S', e1, e2, e3⟩, e4⟩, e5⟩ | ⟨q, e1, E, ce, L, ⟨⟨S', e2, e3⟩, e4⟩, e5⟩
  · exact Or.inl ⟨⟨⟨r, S', e1, hP _ _ e2, e3⟩, e4⟩, e5⟩
  · exact Or.inr ⟨q, e1, E, ce, L, ⟨⟨S', hP _ _ e2, e3⟩, e4⟩, e5⟩
/-- a contract out of others -/
theorem ct_merge {fl : fl_T} {C : ct_T} (Cs : List ct_T) (hCs : ∀ Cc ∈ Cs, ct_ok fl Cc)
    (h : ∀ (ad sm : Nat → Nat) (xs : List av_X) (S : fw_S), en_in xs (en_of C.2.1) → (∀ r ∈ C.2.2.1, rg_in S r) → (∀ g ∈ C.2.2.2.1, fl g 0 0 0 S) → gi_in S →
      ∃ Cc ∈ Cs, (Cc.1 = C.1 ∧ Cc.2.2.2.2.2.2 = C.2.2.2.2.2.2) ∧ en_in xs (en_of Cc.2.1) ∧ (∀ r ∈ Cc.2.2.1, rg_in S r) ∧ (∀ g ∈ Cc.2.2.2.1, fl g 0 0 0 S) ∧ ∀ oc S', ct_post ad sm fl Cc.2.2.2.2.2.1 Cc.2.2.2.2.1 xs S oc S' → ct_post ad sm fl C.2.2.2.2.2.1 C.2.2.2.2.1 xs S oc S') : ct_ok fl C := by
  intro y hy l D tc ad kd N sm xs S hK h1 h2 h3 h4
  obtain ⟨Cc, c1, ⟨c2, c3⟩, c4, c5, c6, c7⟩ := h ad sm xs S h1 h2 h3 h4
  have := hCs Cc c1 y (by rw [c2]; exact hy) l D tc ad kd N sm xs S hK c4 c5 c6 h4
  rw [c3] at this
  exact fw_Met_mono this c7
/-- an int's number in a state -/
theorem en_nv {α : List av_X} {e : List en_E} {i : Nat} {q : en_E} (h : en_in α e) (hq : e[i]? = some q) : α[i]? = some (q.1.1, nv α i) ∧ q.1.2.1 ≤ nv α i ∧ nv α i ≤ q.1.2.2.1 := by
  obtain ⟨x, x1, x2, -⟩ := h.2 i q hq
  obtain ⟨k, m⟩ := x
  have : k = q.1.1 := x2.1
  subst this
  rw [nv_at x1]
  exact ⟨x1, x2.2.2.1, x2.2.2.2.1⟩
/-- one argument, each of its numbers by itself: the results are f of it -/
theorem ct_each {fl : fl_T} {mi fr lo mc : Nat} {lo0 hi0 rl rh : Int} {rels : List (Nat × Nat × Nat)} (f : Int → Int) (K : Int → ct_T)
    (hK : ∀ v, lo0 ≤ v → v ≤ hi0 → ct_ok fl (K v)) (hKe : ∀ v, lo0 ≤ v → v ≤ hi0 → K v = (mi, [(0, v, v, 0)], [], [], [(1, (0, f v, f v, 0), [(0, v, v, 0)], [], ([], []))], [], fr, lo, mc))
    (hf : ∀ v, lo0 ≤ v → v ≤ hi0 → rl ≤ f v ∧ f v ≤ rh ∧ -2147483648 ≤ f v ∧ f v ≤ 2147483647) (hr : ∀ v, lo0 ≤ v → v ≤ hi0 → ∀ S, ∀ w ∈ rels, w.2.1 = 0 ∧ w.2.2 = 0 ∧ fl w.1 (f v) v v S) :
    ct_ok fl (mi, [(0, lo0, hi0, 1)], [], [], [(1, (0, rl, rh, 1), [(0, lo0, hi0, 1)], [], ([], rels))], [], fr, lo, mc) := by
  intro y hy l D tc ad kd N sm xs S hKd h1 h2 h3 h4
  obtain ⟨x1, x2, x3⟩ := en_nv (i := 0) h1 (q := ((0, lo0, hi0, 1), none)) rfl
  dsimp only at x1 x2 x3
  have h5 := hK (nv xs 0) x2 x3
  rw [hKe _ x2 x3] at h5
  obtain ⟨x0, y1, y2, -⟩ := h1.2 0 ((0, lo0, hi0, 1), none) rfl
  have hin : en_in xs (en_of [(0, nv xs 0, nv xs 0, 0)]) := by
    refine ⟨h1.1, fun i q hq => ?_⟩
    match i, hq with
    | 0, hq =>
      cases hq
      refine ⟨_, x1, ⟨rfl, ?_, Int.le_refl _, Int.le_refl _, by dsimp only; rw [Int.sub_self]; exact Int.dvd_zero _⟩, fun _ _ z => by cases z⟩
      cases y1.symm.trans x1
      exact y2.2.1
  have h6 := h5 y hy l D tc ad kd N sm xs S hKd hin (fun _ z => by cases z) (fun _ z => by cases z) h4
  refine fw_Met_mono h6 (fun oc S' hp => ?_)
  obtain ⟨q, q1, q2, q3, q4, q5, q6, q7, q8⟩ := hp
  rcases List.mem_singleton.mp q1 with rfl
  refine ⟨_, List.mem_singleton.mpr rfl, ?_, h1, fun _ z => (by cases z), fun _ z => (by cases z), ?_, q7, q8⟩
  · obtain ⟨v, v1, v2⟩ := q2
    obtain ⟨f1, f2, f3, f4⟩ := hf _ x2 x3
    have l1 := v2.2.2.1
    have l2 := v2.2.2.2.1
    dsimp only at l1 l2
    exact ⟨v, v1, v2.1, v2.2.1, by dsimp only; omega, by dsimp only; omega, av_one _⟩
  · intro w hw v hv
    obtain ⟨u, u1, u2⟩ := q2
    obtain ⟨r1, r2, r3⟩ := hr _ x2 x3 S w hw
    obtain ⟨f1, f2, f3, f4⟩ := hf _ x2 x3
    have l1 := u2.2.2.1
    have l2 := u2.2.2.2.1
    have l3 := u2.1
    dsimp only at l1 l2 l3
    obtain ⟨k, m⟩ := u
    dsimp only at l3 l1 l2
    subst l3
    rw [hv] at u1
    have e1 : Value.int v = Value.int (Int32.ofInt m) := by injection u1 with u1; injection u1
    injection e1 with e1
    have e2 : v.toInt = f (nv xs 0) := by
      rw [e1, show m = f (nv xs 0) by omega]
      exact Int32.toInt_ofInt_of_le (by omega) (by omega)
    rw [r1, r2, e2]
    exact ⟨_, _, x1, x1, r3⟩
/-- what a body by hand stands on -/
def hd_C (ff : Nat → List md_T) (fl : fl_T) (C : ct_T) (Cs : List ct_T) (y : mt_T) (l : Launch) (D : va_G) (tc : Nat → ClassId) (ad : Nat → Nat) (kd : Nat → Nat × Nat) (N : Nat) (sm : Nat → Nat) (xs : List av_X) (p : Program) (s : State) (m : MethodId) (args : Array Value) (meth : Method) (c : Code) (sz : Nat) : Prop :=
  fw_C p s m args meth c D tc (fw_Af ad N sz) y.1.cls y.2.1 y.2.2.1 ∧ fw_St sm (fw_Af ad N sz) s s.heap ∧ kd_okl l kd N ∧ fl_ok ff fl ∧ (∀ x ∈ c.exceptionTable.toList, False) ∧ C.2.1.length = xs.length ∧ meth.sig.returnType = y.2.2.2.1 ∧ (∀ Cc ∈ Cs, ct_ok fl Cc) ∧ y.1.cls = lk_own y.2.2.2.2.1
/-- the machine of a body by hand: it comes to the contract's end -/
def hd_W (fl : fl_T) (C : ct_T) (y : mt_T) (l : Launch) (D : va_G) (tc : Nat → ClassId) (ad : Nat → Nat) (kd : Nat → Nat × Nat) (N : Nat) (sm : Nat → Nat) (xs : List av_X) (S : fw_S) (p : Program) (e : Env) (s : State) (m : MethodId) (args : Array Value) (below : List Frame) (meth : Method) (c : Code) (sz : Nat) (pc : Nat) (lv : List (Nat × Value)) (st : List Value) (S' : fw_S) (n : Nat) : Prop :=
  fw_W p l e (fw_rm C.2.2.2.2.2.2.1 C.2.2.2.2.2.2.2.1 C.2.2.2.2.2.2.2.2) s m args below meth c (vx_MQ below (fw_Q D tc ad kd N sm (fw_Af ad N sz) (ct_post ad sm fl C.2.2.2.2.2.1 C.2.2.2.2.1 xs S)) (fw_X D tc ad kd N sm (fw_Af ad N sz) (ct_post ad sm fl C.2.2.2.2.2.1 C.2.2.2.2.1 xs S)) args s C.2.2.2.2.2.2.2.2 (6 * C.2.2.2.2.2.2.2.2) (fw_Af ad N sz)) D tc ad kd N y.2.2.1 (fw_Af ad N sz) pc lv st S' n
def hd_0 (C : ct_T) : as_T := (en_of C.2.1, lc_of 0 0 C.2.1, [], [], [], [], C.2.2.1, C.2.2.2.1, none)
section HD
variable {ff : Nat → List md_T} {fl : fl_T} {C : ct_T} {Cs : List ct_T} {y : mt_T} {l : Launch} {D : va_G} {tc : Nat → ClassId} {ad : Nat → Nat} {kd : Nat → Nat × Nat} {N : Nat} {sm : Nat → Nat} {xs : List av_X} {S : fw_S}
variable {p : Program} {e : Env} {s : State} {m : MethodId} {args : Array Value} {below : List Frame} {meth : Method} {c : Code} {sz : Nat}
variable {pc n : Nat} {lv : List (Nat × Value)} {st : List Value} {S1 S0 : fw_S} {α α0 : List av_X} {A : as_T}
/-- a contract by hand -/
theorem ct_hand (hfl : fl_ok ff fl) (hy : mt_at C.1 = some y) (hCs : ∀ Cc ∈ Cs, ct_ok fl Cc) (har : decide (ar_w C.2.1 ≤ y.2.2.1) = true)
    (body : ∀ (l : Launch) (D : va_G) (tc : Nat → ClassId) (ad : Nat → Nat) (kd : Nat → Nat × Nat) (N : Nat) (sm : Nat → Nat) (xs : List av_X) (S : fw_S) (p : Program) (e : Env) (s : State) (m : MethodId) (args : Array Value) (below : List Frame) (meth : Method) (c : Code) (sz : Nat) (lv : List (Nat × Value)),
      hd_C ff fl C Cs y l D tc ad kd N sm xs p s m args meth c sz → as_in ad sm fl xs S C.2.2.2.2.2.1 xs (hd_0 C) lv [] S → hd_W fl C y l D tc ad kd N sm xs S p e s m args below meth c sz 0 lv [] S 0) : ct_ok fl C := by
  intro y' hy'
  cases hy.symm.trans hy'
  intro l D tc ad kd N sm xs S hK hxs hrs hfs hgi
  have hmt := mt_at_ok hy
  simp only [mt_b, Bool.and_eq_true, decide_eq_true_eq] at hmt
  obtain ⟨⟨⟨⟨⟨⟨⟨m1, m2⟩, m3⟩, m4⟩, m5⟩, m6⟩, m7⟩, m8⟩ := hmt
  have h1 : ar_w C.2.1 ≤ y.2.2.1 := of_decide_eq_true har
  have hlen : C.2.1.length = xs.length := by rw [hxs.1]; simp [en_of]
  have hax : ∀ (j : Nat) (a : av_T), C.2.1[j]? = some a → ∃ x, xs[j]? = some x ∧ av_in a x := by
    intro j a ha
    obtain ⟨x, x1, x2, -⟩ := hxs.2 j (a, none) (by unfold en_of; rw [List.getElem?_map, ha]; rfl)
    exact ⟨x, x1, x2⟩
  refine fw_ofW m6 (by rw [sl_len C.2.1 xs hlen hax]; exact h1) ?_
  intro sz p e s m args below meth c C0 hSt hret hex _
  exact body l D tc ad kd N sm xs S p e s m args below meth c sz _ ⟨C0, hSt, hK, hfl, hex, hlen, hret, hCs, m7⟩
    ⟨al_le.refl, hxs, lc_in2 C.2.1 xs 0 0 hlen hax (fun j x hx => by rw [Nat.zero_add]; exact hx), trivial, fun q hq => by (exfalso; exact List.not_mem_nil hq), fun q hq => by (exfalso; exact List.not_mem_nil hq), fun q hq => by (exfalso; exact List.not_mem_nil hq), hrs, hfs, hgi, ⟨fun _ _ _ => ⟨rfl, rfl⟩, rfl⟩, trivial⟩
/-- a segment -/
theorem hd_seg (G : hd_C ff fl C Cs y l D tc ad kd N sm xs p s m args meth c sz) {na fuel : Nat} {first : Bool} {Bs : List sg_T} (h : en_sg y.2.2.2.2.1 y.2.2.1 C.2.2.2.2.2.2.1 C.2.2.2.2.2.2.2.1 C.2.2.2.2.2.2.2.2 na y.2.2.2.1 ff C.2.2.2.2.2.1 Cs y.2.1 Bs fuel first n pc A = true) (hna : α0.length = na)
    (H : as_in ad sm fl α0 S0 C.2.2.2.2.2.1 α A lv st S1) (hB : ∀ q ∈ Bs, ∀ (β : List av_X) (lv : List (Nat × Value)) (st : List Value) (S' : fw_S), as_in ad sm fl α0 S0 C.2.2.2.2.2.1 β q.2.2 lv st S' → hd_W fl C y l D tc ad kd N sm xs S p e s m args below meth c sz q.1 lv st S' q.2.1) :
    hd_W fl C y l D tc ad kd N sm xs S p e s m args below meth c sz pc lv st S1 n :=
  en_sg_in (α0 := α0) G.1 G.2.1 G.2.2.1 G.2.2.2.1 G.2.2.2.2.2.2.2.2 G.2.2.2.2.1 hna G.2.2.2.2.2.2.2.1 hB fuel first n pc A h α lv st S1 H
/-- a noted state holds, of numbers of its own -/
theorem hd_arr {na : Nat} {q : an_T} (h : q_arr na none n A q = true) (hna : xs.length = na) {mod : List md_T} (H : as_in ad sm fl xs S mod α A lv st S1) : as_in ad sm fl xs S mod ((q_mu na q.2.2.1 A).map (fun v => (α[v]?).getD (0, 0))) q.2.2.1 lv st S1 :=
  (q_arr_in (hd := none) (αh := xs) h H hna H.1 (fun ms hms => by cases hms)).2.1
/-- a segment, over loops that the engine goes round -/
theorem hd_segA (G : hd_C ff fl C Cs y l D tc ad kd N sm xs p s m args meth c sz) {na K fuel : Nat} {an : List an_T} {ss : List (Nat × Nat)} {Bs : List sg_T} (h : en_chkA y.2.2.2.2.1 y.2.2.1 C.2.2.2.2.2.2.1 C.2.2.2.2.2.2.2.1 C.2.2.2.2.2.2.2.2 na y.2.2.2.1 ff C.2.2.2.2.2.1 Cs y.2.1 an ss Bs K fuel n pc A = true) (hna : α0.length = na)
    (H : as_in ad sm fl α0 S0 C.2.2.2.2.2.1 α A lv st S1) (hB : ∀ q ∈ Bs, ∀ (β : List av_X) (lv : List (Nat × Value)) (st : List Value) (S' : fw_S), as_in ad sm fl α0 S0 C.2.2.2.2.2.1 β q.2.2 lv st S' → hd_W fl C y l D tc ad kd N sm xs S p e s m args below meth c sz q.1 lv st S' q.2.1) :
    hd_W fl C y l D tc ad kd N sm xs S p e s m args below meth c sz pc lv st S1 n := by
  rw [en_chkA, Bool.and_eq_true] at h
  obtain ⟨h2, h3⟩ := h
  have hAll : ∀ (v : List Nat), v.length = K → ∀ q ∈ an, ∀ (α : List av_X) (lv : List (Nat × Value)) (st : List Value) (S' : fw_S), as_in ad sm fl α0 S0 C.2.2.2.2.2.1 α q.2.2.1 lv st S' → q.2.2.2.map (me_val α) = v →
      hd_W fl C y l D tc ad kd N sm xs S p e s m args below meth c sz q.1 lv st S' q.2.1 := by
    refine lx_ind K _ (fun v hv ih q hq α lv st S' H hqv => ?_)
    have h4 := List.all_eq_true.mp h3 q hq
    simp only [Bool.and_eq_true, beq_iff_eq] at h4
    obtain ⟨⟨h4, h5⟩, h6⟩ := h4
    refine en_sgA_in (α0 := α0) (αh := α) (hd := some q.2.2.2) G.1 G.2.1 G.2.2.1 G.2.2.2.1 G.2.2.2.2.2.2.2.2 G.2.2.2.2.1 hna G.2.2.2.2.2.2.2.1 (fun ms hms w hw => ?_) (fun q' hq' α' lv' st' S'' H' hlx => ?_) hB fuel true q.2.1 q.1 q.2.2.1 h6 α lv st S' al_le.refl H
    · cases hms
      have := List.all_eq_true.mp h5 w hw
      simp only [Bool.or_eq_true, beq_iff_eq, decide_eq_true_eq] at this
      rw [H.2.1.1]
      exact this
    · have h7 := List.all_eq_true.mp h3 q' hq'
      simp only [Bool.and_eq_true, beq_iff_eq] at h7
      exact ih (q'.2.2.2.map (me_val α')) (by rw [List.length_map]; exact h7.1.1) (by rw [← hqv]; exact hlx _ rfl) q' hq' α' lv' st' S'' H' rfl
  refine en_sgA_in (α0 := α0) (αh := α0) (hd := none) G.1 G.2.1 G.2.2.1 G.2.2.2.1 G.2.2.2.2.2.2.2.2 G.2.2.2.2.1 hna G.2.2.2.2.2.2.2.1 (fun ms hms => by cases hms) (fun q hq α lv st S' H _ => ?_) hB fuel false n pc A h2 α lv st S1 H.1 H
  have h7 := List.all_eq_true.mp h3 q hq
  simp only [Bool.and_eq_true, beq_iff_eq] at h7
  exact hAll (q.2.2.2.map (me_val α)) (by rw [List.length_map]; exact h7.1.1) q hq α lv st S' H rfl
/-- from a segment's end to a noted state -/
theorem hd_go {na : Nat} {q : an_T} {mod : List md_T} {xs : List av_X} {Se : fw_S} (h : q_arr na none n (as_bk A) q = true) (hna : xs.length = na) (H : as_in ad sm fl α0 S0 mod α A lv st S1) (hle : al_le xs α0) (hf : fr_in mod Se S0) :
    as_in ad sm fl xs Se mod ((q_mu na q.2.2.1 (as_bk A)).map (fun v => (α[v]?).getD (0, 0))) q.2.2.1 lv st S1 :=
  hd_arr h hna (as_back H hle hf)
/-- to the end, by the engine -/
theorem hd_run (G : hd_C ff fl C Cs y l D tc ad kd N sm xs p s m args meth c sz) {ss : List (Nat × Nat)} {fuel : Nat} (h : en_run y.2.2.2.2.1 y.2.2.1 C.2.2.2.2.2.2.1 C.2.2.2.2.2.2.2.1 C.2.2.2.2.2.2.2.2 C.2.1.length y.2.2.2.1 ff C.2.2.2.2.2.1 C.2.2.2.2.1 Cs y.2.1 [] ss fuel false none n pc A = true)
    (H : as_in ad sm fl xs S C.2.2.2.2.2.1 α A lv st S1) : hd_W fl C y l D tc ad kd N sm xs S p e s m args below meth c sz pc lv st S1 n :=
  en_run_in (hd := none) (αh := xs) (an := []) G.1 G.2.1 G.2.2.1 G.2.2.2.1 G.2.2.2.2.2.2.2.2 G.2.2.2.2.1 G.2.2.2.2.2.1.symm G.2.2.2.2.2.2.1 G.2.2.2.2.2.2.2.1 (fun ms hms => by cases hms) (fun q hq => by cases hq) fuel false n pc A h α lv st S1 H.1 H
theorem nv_mu {mu : List Nat} {β : List av_X} {i v : Nat} (h : mu[i]? = some v) : nv (mu.map (fun v => (β[v]?).getD (0, 0))) i = nv β v := by
  unfold nv
  rw [List.getElem?_map, h]
  rfl
/-- the return of an int, with what it is to the arguments -/
theorem hd_retI (G : hd_C ff fl C Cs y l D tc ad kd N sm xs p s m args meth c sz) (hdg : decode y.2.1 pc = .ok (.ireturn, 1)) (H : as_in ad sm fl xs S C.2.2.2.2.2.1 α A lv st S1) (cq : cs_T) (hc : cq ∈ C.2.2.2.2.1) {v : Nat} (hst : A.2.2.1 = [v])
    (hq : q_eI y.2.2.2.1 C.2.1.length [(cq.1, cq.2.1, cq.2.2.1, cq.2.2.2.1, (cq.2.2.2.2.1, []))] A = true) (hn : n ≤ C.2.2.2.2.2.2.2.2) (hr : ∀ w ∈ cq.2.2.2.2.2, ∃ x y : av_X, xs[w.2.1]? = some x ∧ xs[w.2.2]? = some y ∧ fl w.1 (nv α v) x.2 y.2 S) :
    hd_W fl C y l D tc ad kd N sm xs S p e s m args below meth c sz pc lv st S1 n := by
  unfold q_eI at hq
  rw [hst] at hq
  dsimp only at hq
  split at hq
  · rename_i a ha
    rw [Bool.and_eq_true] at hq
    obtain ⟨d, a1, a2⟩ := q_av_some ha
    obtain ⟨x, st', rfl, x1, x2, H2⟩ := as_popi (as_q H hst) a1 a2
    have hp0 : ct_post ad sm fl C.2.2.2.2.2.1 [(cq.1, cq.2.1, cq.2.2.1, cq.2.2.2.1, (cq.2.2.2.2.1, []))] xs S (.inl (some (.int x))) S1 := q_cs_in hq.2 H G.2.2.2.2.2.1.symm
      (fun b hb => ⟨(0, x.toInt), by show _ = Sum.inl (some (Value.int (Int32.ofInt x.toInt))); rw [Int32.ofInt_toInt], hb v rfl _ x1⟩) (fun i hi => by cases hi; exact ⟨_, x1⟩)
    have hp : ct_post ad sm fl C.2.2.2.2.2.1 C.2.2.2.2.1 xs S (.inl (some (.int x))) S1 := by
      obtain ⟨q, q1, q2, q3, q4, q5, q6, q7, q8⟩ := hp0
      rcases List.mem_singleton.mp q1 with rfl
      refine ⟨cq, hc, q2, q3, q4, q5, fun w hw v' hv' => ?_, q7, q8⟩
      cases hv'
      rw [nv_at x1] at hr
      exact hr w hw
    have hst2 : st' = [] := by
      have := H2.2.2.2.1
      match st', this with
      | [], _ => rfl
      | _ :: _, z => exact z.elim
    subst hst2
    have hret := G.2.2.2.2.2.2.1
    rw [Bool.or_eq_true] at hq
    rcases hq.1 with g | g
    · exact fw_iret G.1 G.2.1 (hret.trans (of_decide_eq_true g)) hn hp hdg
    · simp only [Bool.and_eq_true, decide_eq_true_eq] at g
      have l1 := x2.2.2.1
      have l2 := x2.2.2.2.1
      dsimp only at l1 l2
      refine fw_zret G.1 G.2.1 (hret.trans g.1.1) ?_ hn hp hdg
      have : x.toInt = 0 ∨ x.toInt = 1 := by omega
      rcases this with e | e
      · have : x = 0 := Int32.toInt_inj.mp (e.trans rfl)
        subst this; decide
      · have : x = 1 := Int32.toInt_inj.mp (e.trans rfl)
        subst this; decide
  · cases hq
end HD
