/-! ===== THE ENGINE: a body run from its start and from each place noted, to its ends and to places noted ===== -/
/-- what a comparing number is: (0, _, c): c; (1, i, c): c less the number i; (2, i, c): the number i less c -/
abbrev me_T : Type := Nat × Nat × Int
/-- a place noted: pc, exceptions made, state, what grows less -/
abbrev an_T : Type := Nat × Nat × as_T × List me_T
def me_val (α : List av_X) (q : me_T) : Nat := match q.1 with
  | 0 => q.2.2.toNat
  | 1 => (q.2.2 - ((α[q.2.1]?).getD (0, 0)).2).toNat
  | _ => (((α[q.2.1]?).getD (0, 0)).2 - q.2.2).toNat
def lx : List Nat → List Nat → Prop
  | x :: r, y :: w => x < y ∨ x = y ∧ lx r w
  | _, _ => False
theorem lx_ind : ∀ (k : Nat) (P : List Nat → Prop), (∀ l, l.length = k → (∀ l', l'.length = k → lx l' l → P l') → P l) → ∀ l, l.length = k → P l
  | 0, P, h, l, hl => h l hl (fun l' _ hx => by
      cases l with
      | nil => cases l' <;> exact hx.elim
      | cons _ _ => cases hl)
  | k + 1, P, h, l, hl => by
    match l, hl with
    | x :: r, hl =>
      have hr : r.length = k := by simpa using hl
      clear hl
      induction x using Nat.strongRecOn generalizing r with
      | _ x ih =>
        refine lx_ind k (fun r => P (x :: r)) (fun r hr hlow => h (x :: r) (by simp [hr]) (fun l' hl' hlt => ?_)) r hr
        match l', hl', hlt with
        | y :: w, hl', hlt =>
          have hw : w.length = k := by simpa using hl'
          rcases hlt with g | ⟨g1, g2⟩
          · exact ih y g w hw
          · rw [g1]
            exact hlow w hw g2
def q_cls (ff : Nat → List md_T) (mod : List md_T) (na : Nat) (cs : List cs_T) (fr lo mc maxL n pc : Nat) (A : as_T) (mi : Nat) : List ct_T → Option (Nat × sp_L)
  | [] => none
  | Cc :: r => if Cc.1 = mi then (match q_call ff mod na cs fr lo mc Cc maxL n pc A with
    | some L => some (Cc.2.2.2.2.2.2.2.2, L)
    | none => q_cls ff mod na cs fr lo mc maxL n pc A mi r) else q_cls ff mod na cs fr lo mc maxL n pc A mi r
theorem q_cls_in {ff : Nat → List md_T} {mod : List md_T} {na : Nat} {cs : List cs_T} {fr lo mc maxL n pc : Nat} {A : as_T} {mi : Nat} {k : Nat} {L : sp_L} : ∀ {Cs : List ct_T}, q_cls ff mod na cs fr lo mc maxL n pc A mi Cs = some (k, L) → ∃ Cc ∈ Cs, Cc.1 = mi ∧ Cc.2.2.2.2.2.2.2.2 = k ∧ q_call ff mod na cs fr lo mc Cc maxL n pc A = some L
  | [], h => by cases h
  | Cc :: r, h => by
    rw [q_cls] at h
    split at h
    · rename_i hm
      split at h
      · rename_i L' hL
        cases h
        exact ⟨Cc, List.mem_cons_self, hm, rfl, hL⟩
      · obtain ⟨C', c1, c2⟩ := q_cls_in h
        exact ⟨C', List.mem_cons_of_mem _ c1, c2⟩
    · obtain ⟨C', c1, c2⟩ := q_cls_in h
      exact ⟨C', List.mem_cons_of_mem _ c1, c2⟩
/-- the receiver is of the method's class -/
def q_rc (A : as_T) (na ci : Nat) : Bool := match (A.2.2.1.take na).reverse with
  | v :: _ => (match q_rk A v with
    | some w => w.2.1 == ci + 6 && w.2.2 == cl_n ci
    | none => false)
  | [] => false
def q_vk (vir : Bool) (k : Nat) (A : as_T) (np ci : Nat) : Bool := match vir with
  | true => k == 1 && q_rc A (np + 1) ci
  | false => k == 0 || k == 2
def q_ac (vir : Bool) (np : Nat) : Nat := match vir with
  | true => np + 1
  | false => np
def q_inv (oc : Nat) (ff : Nat → List md_T) (mod : List md_T) (na : Nat) (cs : List cs_T) (fr lo mc : Nat) (Cs : List ct_T) (vir : Bool) (n pc idx : Nat) (A : as_T) : Option (Nat × sp_L) := match lkm_at oc idx with
  | some q => (match mt_at q.2.2.1 with
    | some y => if q_vk vir q.2.1 A y.2.2.2.2.2.2.1 y.2.2.2.2.1 = true then q_cls ff mod na cs fr lo mc y.2.2.1 n pc A q.2.2.1 (Cs.filter (fun c => c.2.1.length == q_ac vir y.2.2.2.2.2.2.1)) else none
    | none => none)
  | none => none
/-- what comes next: by how many exceptions more, and where -/
def q_nx (oc nL fr lo mc na : Nat) (ret : Option FieldType) (ff : Nat → List md_T) (mod : List md_T) (cs : List cs_T) (Cs : List ct_T) (n pc len : Nat) (i : Instr) (A : as_T) : Option (Nat × sp_L) := match i with
  | .ireturn => if len = 1 ∧ n ≤ mc ∧ q_eI ret na cs A = true then some (0, []) else none
  | .lreturn => if len = 1 ∧ n ≤ mc ∧ q_eL ret na cs A = true then some (0, []) else none
  | .areturn => if len = 1 ∧ n ≤ mc ∧ q_eA ret na cs A = true then some (0, []) else none
  | .return_ => if len = 1 ∧ n ≤ mc ∧ q_eV ret na cs A = true then some (0, []) else none
  | .invokevirtual idx => if len = 3 then q_inv oc ff mod na cs fr lo mc Cs true n pc idx A else none
  | .invokestatic idx => if len = 3 then (match q_inv oc ff mod na cs fr lo mc Cs false n pc idx A with
    | some r => some r
    | none => (match q_step oc nL fr lo mc ff mod n pc 3 (.invokestatic idx) A with | some L => some (0, L) | none => none)) else none
  | j => (match q_step oc nL fr lo mc ff mod n pc len j A with | some L => some (0, L) | none => none)
section EN
variable {p : Program} {l : Launch} {e0 : Env} {s0 : State} {m : MethodId} {args : Array Value} {below : List Frame} {meth : Method} {c0 : Code}
variable {D : va_G} {tc : Nat → ClassId} {ad : Nat → Nat} {kd : Nat → Nat × Nat} {N nL : Nat} {own : String} {cc : ByteArray} {sm : Nat → Nat}
variable {fl : fl_T} {ff : Nat → List md_T} {α0 : List av_X} {S0 : fw_S} {mod : List md_T} {α : List av_X} {A A' : as_T} {lv : List (Nat × Value)} {st : List Value} {S : fw_S} {pc n : Nat}

variable {oc fr lo mc na : Nat} {ret : Option FieldType} {cs : List cs_T} {Cs : List ct_T} {sz : Nat}
theorem sp_inv (C0 : fw_C p s0 m args meth c0 D tc (fw_Af ad N sz) own cc nL) (hSt : fw_St sm (fw_Af ad N sz) s0 s0.heap) (hK : kd_okl l kd N) (hfl : fl_ok ff fl) (ho : own = lk_own oc) (hx : ∀ x ∈ c0.exceptionTable.toList, False) (hna : α0.length = na) (hCs : ∀ Cc ∈ Cs, ct_ok fl Cc) {Q : State → Prop} {vir : Bool} {idx k : Nat} {L : sp_L}
    (hdg : decode cc pc = .ok (if vir then .invokevirtual idx else .invokestatic idx, 3)) (h : q_inv oc ff mod na cs fr lo mc Cs vir n pc idx A = some (k, L)) (H : as_in ad sm fl α0 S0 mod α A lv st S)
    (hX : ∀ (rest : List Value) (S' : fw_S) (E : String) (n' : Nat), n' ≤ mc → ct_post ad sm fl mod cs α0 S0 (.inr E) S' → fw_T p l e0 (fw_rm fr lo mc) s0 m args below meth c0 Q D tc ad kd N nL (fw_Af ad N sz) pc lv rest S' n' E)
    (hk : ∀ q ∈ L, ∀ (β : List av_X) (lv : List (Nat × Value)) (st : List Value) (S : fw_S), al_le α β → as_in ad sm fl α0 S0 mod β q.2 lv st S → fw_W p l e0 (fw_rm fr lo mc) s0 m args below meth c0 Q D tc ad kd N nL (fw_Af ad N sz) q.1 lv st S (n + k)) : fw_W p l e0 (fw_rm fr lo mc) s0 m args below meth c0 Q D tc ad kd N nL (fw_Af ad N sz) pc lv st S n := by
  unfold q_inv at h
  split at h
  · rename_i q hq
    split at h
    · rename_i y hy
      obtain ⟨q1, q2⟩ := lkm_at_in hq
      have hmt := mt_at_ok hy
      simp only [mt_b, Bool.and_eq_true, decide_eq_true_eq] at hmt
      obtain ⟨⟨⟨⟨⟨⟨⟨m1, m2⟩, m3⟩, m4⟩, m5⟩, m6⟩, m7⟩, m8⟩ := hmt
      split at h
      · rename_i hv
        obtain ⟨Cc, d1, d2, d3, d4⟩ := q_cls_in h
        obtain ⟨d1, d5⟩ := List.mem_filter.mp d1
        replace d5 : Cc.2.1.length = q_ac vir y.2.2.2.2.2.2.1 := by simpa using d5
        obtain ⟨ys, rest, e1, e2, e3, e4, e5, e6, e7, e8, e9, e10⟩ := q_call_in hfl d4 H hna
        have hM := hCs Cc d1 y (by rw [d2]; exact hy) l D tc ad kd N sm ys S hK e3 e4 e5 e6
        have hys : ys.length = Cc.2.1.length := by rw [e3.1]; simp [en_of]
        have kr : ∀ (r : Option Value) (S' : fw_S), ct_post ad sm fl Cc.2.2.2.2.2.1 Cc.2.2.2.2.1 ys S (.inl r) S' → fw_W p l e0 (fw_rm fr lo mc) s0 m args below meth c0 Q D tc ad kd N nL (fw_Af ad N sz) (pc + 3) lv (r.toList ++ rest) S' (n + Cc.2.2.2.2.2.2.2.2) := by
          intro r S' hp
          obtain ⟨B, β, b1, b2, b3⟩ := e9 r S' hp
          rw [d3]
          exact hk _ b1 β _ _ _ b2 b3
        have kx : ∀ (E : String) (S' : fw_S), ct_post ad sm fl Cc.2.2.2.2.2.1 Cc.2.2.2.2.1 ys S (.inr E) S' → fw_T p l e0 (fw_rm fr lo mc) s0 m args below meth c0 Q D tc ad kd N nL (fw_Af ad N sz) pc lv rest S' (n + Cc.2.2.2.2.2.2.2.2) E :=
          fun E S' hp => hX _ _ _ _ e8 (e10 E S' hp)
        have wc := lk_code_in m1
        have wi := lk_chk_in m2
        unfold lkm_b at q2
        rw [q1] at q2
        rw [← ho] at q2
        cases vir with
        | false =>
          replace hv : q.2.1 = 0 ∨ q.2.1 = 2 := by simpa [q_vk] using hv
          replace d5 : Cc.2.1.length = y.2.2.2.2.2.2.1 := d5
          replace hdg : decode cc pc = .ok (.invokestatic idx, 3) := hdg
          have hst : st = (ys.map (av_V ad sm)).reverse ++ rest := by rw [e1, List.map_reverse]
          have hlen : (ys.map (av_V ad sm)).length = y.2.2.2.2.2.2.1 := by rw [List.length_map, hys, d5]
          rcases hv with hv | hv
          · rw [hv] at q2
            rw [hy] at q2
            simp only [Bool.and_eq_true, decide_eq_true_eq] at q2
            rw [if_pos q2.1] at m8
            exact fw_callS C0 hSt hM ⟨m3, m4, by rw [m5, hlen]⟩ (lk_chk_in q2.2) (lk_chk_in m8) wi wc e7 hst hdg kr kx
          · rw [hv] at q2
            rw [hy] at q2
            simp only [Bool.and_eq_true, decide_eq_true_eq] at q2
            rw [if_pos q2.1] at m8
            exact fw_callSN C0 hSt hM ⟨m3, m4, by rw [m5, hlen]⟩ (lk_at_in q2.2 rfl) (lk_chk_in m8) wi wc e7 hst hdg kr kx
        | true =>
          replace d5 : Cc.2.1.length = y.2.2.2.2.2.2.1 + 1 := d5
          replace hdg : decode cc pc = .ok (.invokevirtual idx, 3) := hdg
          obtain ⟨hv, hrc⟩ : q.2.1 = 1 ∧ q_rc A (y.2.2.2.2.2.2.1 + 1) y.2.2.2.2.1 = true := by simpa [q_vk] using hv
          rw [hv] at q2
          rw [hy] at q2
          simp only [Bool.and_eq_true, decide_eq_true_eq] at q2
          rw [if_neg (by rw [q2.1]; decide)] at m8
          simp only [Bool.and_eq_true, decide_eq_true_eq] at m8
          rw [← d5] at hrc
          unfold q_rc at hrc
          split at hrc
          · rename_i v vs hnm
            split at hrc
            · rename_i w hw
              simp only [Bool.and_eq_true, beq_iff_eq] at hrc
              rw [hnm] at e2
              obtain ⟨x, x1, x2⟩ := e2.2 0 v rfl
              match ys, x1 with
              | x0 :: ys', x1 =>
                cases x1
                obtain ⟨a, dd, g1, g2, g3⟩ := q_rk_in hw
                obtain ⟨a', g4, g5, -⟩ := en_some H.2.1 x2
                cases g4.symm.trans g1
                obtain ⟨xk, xm⟩ := x
                have hxk : xk = 2 := g5.1.trans g2
                subst hxk
                have hxm : 0 ≤ xm := g5.2.1
                have hnat : ((xm.toNat : Nat) : Int) = xm := Int.toNat_of_nonneg hxm
                obtain ⟨f1, f2, f3, f4⟩ := g3 xm.toNat (by rw [hnat]; exact g5)
                cases hc : vwCl[y.2.2.2.2.1]? with
                | none => rw [hc] at m8; simp at m8
                | some cl =>
                  rw [hc] at m8
                  have hcl : cl.1 = y.1.cls := by simpa using m8.2
                  have hn : cl_n y.2.2.2.2.1 = cl.2.2 := by unfold cl_n; rw [hc]
                  have hkd : wd_kd xm.toNat = (y.2.2.2.2.1 + 6, cl.2.2) := by rw [f4, ← hn, ← hrc.1, ← hrc.2]
                  have hst : st = (ys'.map (av_V ad sm)).reverse ++ .ref (ad xm.toNat) :: rest := by
                    rw [e1]
                    simp [av_V]
                  have hlen : (ys'.map (av_V ad sm)).length = y.2.2.2.2.2.2.1 := by
                    rw [List.length_map]
                    simp only [List.length_cons] at hys
                    omega
                  exact fw_callV (b := xm.toNat) (ci := y.2.2.2.2.1) (n0 := cl.2.2) (T := cl.2.1) (av := ys'.map (av_V ad sm)) C0 hSt hM (Nat.lt_of_lt_of_le f3 hK.1.1) ((hK.1.2 _ f3).trans hkd) (by rw [hc, ← hcl]) ⟨m3, m4, by rw [m5, hlen]⟩ (lk_chk_in q2.2) (lk_chk_in m8.1.1) (lk_chk_in m8.1.2) wi wc e7 hst hdg kr kx
              | [], x1 => cases x1
            · cases hrc
          · cases hrc
      · cases h
    · cases h
  · cases h
theorem sp_nx (C0 : fw_C p s0 m args meth c0 D tc (fw_Af ad N sz) own cc nL) (hSt : fw_St sm (fw_Af ad N sz) s0 s0.heap) (hK : kd_okl l kd N) (hfl : fl_ok ff fl) (ho : own = lk_own oc) (hx : ∀ x ∈ c0.exceptionTable.toList, False) (hna : α0.length = na) (hret : meth.sig.returnType = ret) (hCs : ∀ Cc ∈ Cs, ct_ok fl Cc) {i : Instr} {len k : Nat} {L : sp_L}
    (hdg : decode cc pc = .ok (i, len)) (h : q_nx oc nL fr lo mc na ret ff mod cs Cs n pc len i A = some (k, L)) (H : as_in ad sm fl α0 S0 mod α A lv st S)
    (hk : ∀ q ∈ L, ∀ (β : List av_X) (lv : List (Nat × Value)) (st : List Value) (S : fw_S), al_le α β → as_in ad sm fl α0 S0 mod β q.2 lv st S → fw_W p l e0 (fw_rm fr lo mc) s0 m args below meth c0 (vx_MQ below (fw_Q D tc ad kd N sm (fw_Af ad N sz) (ct_post ad sm fl mod cs α0 S0)) (fw_X D tc ad kd N sm (fw_Af ad N sz) (ct_post ad sm fl mod cs α0 S0)) args s0 mc (6 * mc) (fw_Af ad N sz)) D tc ad kd N nL (fw_Af ad N sz) q.1 lv st S (n + k)) : fw_W p l e0 (fw_rm fr lo mc) s0 m args below meth c0 (vx_MQ below (fw_Q D tc ad kd N sm (fw_Af ad N sz) (ct_post ad sm fl mod cs α0 S0)) (fw_X D tc ad kd N sm (fw_Af ad N sz) (ct_post ad sm fl mod cs α0 S0)) args s0 mc (6 * mc) (fw_Af ad N sz)) D tc ad kd N nL (fw_Af ad N sz) pc lv st S n := by
  unfold q_nx at h
  split at h
  · split at h
    · rename_i hc
      obtain ⟨hl, c1, c2⟩ := hc
      subst hl
      exact sp_eI C0 hSt hret c1 hna hdg c2 H (fun _ _ z => z)
    · cases h
  · split at h
    · rename_i hc
      obtain ⟨hl, c1, c2⟩ := hc
      subst hl
      exact sp_eL C0 hSt hret c1 hna hdg c2 H (fun _ _ z => z)
    · cases h
  · split at h
    · rename_i hc
      obtain ⟨hl, c1, c2⟩ := hc
      subst hl
      exact sp_eA C0 hSt hret c1 hna hdg c2 H (fun _ _ z => z)
    · cases h
  · split at h
    · rename_i hc
      obtain ⟨hl, c1, c2⟩ := hc
      subst hl
      exact sp_eV C0 hSt hret c1 hna hdg c2 H (fun _ _ z => z)
    · cases h
  · split at h
    · rename_i hl
      subst hl
      exact sp_inv (vir := true) C0 hSt hK hfl ho hx hna hCs hdg h H (fun _ _ _ _ g1 g2 => fw_out C0 hSt hx g1 g2) hk
    · cases h
  · split at h
    · rename_i hl
      subst hl
      split at h
      · rename_i r hr
        cases h
        exact sp_inv (vir := false) C0 hSt hK hfl ho hx hna hCs hdg hr H (fun _ _ _ _ g1 g2 => fw_out C0 hSt hx g1 g2) hk
      · split at h
        · rename_i L' hL
          cases h
          exact sp_step rfl C0 hSt hK.1 hfl ho hdg hL H (fun q hq β lv st S b1 b2 => hk q hq β lv st S b1 b2)
        · cases h
    · cases h
  · split at h
    · rename_i L' hL
      cases h
      exact sp_step rfl C0 hSt hK.1 hfl ho hdg hL H (fun q hq β lv st S b1 b2 => hk q hq β lv st S b1 b2)
    · cases h
end EN

