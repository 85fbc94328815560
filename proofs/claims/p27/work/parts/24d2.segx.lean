/-! ===== segments that may throw ===== -/
def is_ret : Instr → Bool := fun i => match i with
  | .ireturn => true
  | .lreturn => true
  | .areturn => true
  | .return_ => true
  | _ => false
def en_sgX (oc nL fr lo mc na : Nat) (ret : Option FieldType) (ff : Nat → List md_T) (mod : List md_T) (cs : List cs_T) (Cs : List ct_T) (cc : ByteArray) (Bs : List sg_T) : Nat → Bool → Nat → Nat → as_T → Bool
  | 0, _, _, _, _ => false
  | f + 1, first, n, pc, A => if !first && Bs.any (fun q => q.1 == pc) then Bs.any (fun q => q.1 == pc && decide (n ≤ q.2.1) && as_sub A q.2.2) else (match decode cc pc with
      | .ok (i, len) => !is_ret i && (match q_nx oc nL fr lo mc na ret ff mod cs Cs n pc len i A with
        | some (k, L) => L.all (fun w => en_sgX oc nL fr lo mc na ret ff mod cs Cs cc Bs f false (n + k) w.1 w.2)
        | none => false)
      | .error _ => false)
section HX
variable {p : Program} {l : Launch} {e0 : Env} {s0 : State} {m : MethodId} {args : Array Value} {below : List Frame} {meth : Method} {c0 : Code} {Q : State → Prop}
variable {D : va_G} {tc : Nat → ClassId} {ad : Nat → Nat} {kd : Nat → Nat × Nat} {N nL : Nat} {own : String} {cc : ByteArray} {sm : Nat → Nat}
variable {fl : fl_T} {ff : Nat → List md_T} {α0 : List av_X} {S0 : fw_S} {mod : List md_T}
variable {oc fr lo mc na : Nat} {ret : Option FieldType} {cs : List cs_T} {Cs : List ct_T} {sz : Nat}
theorem en_sgX_in (C0 : fw_C p s0 m args meth c0 D tc (fw_Af ad N sz) own cc nL) (hSt : fw_St sm (fw_Af ad N sz) s0 s0.heap) (hK : kd_okl l kd N) (hfl : fl_ok ff fl) (ho : own = lk_own oc) (hx : ∀ x ∈ c0.exceptionTable.toList, False) (hna : α0.length = na) (hCs : ∀ Cc ∈ Cs, ct_ok fl Cc)
    (hX : ∀ (pc : Nat) (lv : List (Nat × Value)) (rest : List Value) (S' : fw_S) (E : String) (n' : Nat), n' ≤ mc → ct_post ad sm fl mod cs α0 S0 (.inr E) S' → fw_T p l e0 (fw_rm fr lo mc) s0 m args below meth c0 Q D tc ad kd N nL (fw_Af ad N sz) pc lv rest S' n' E)
    {Bs : List sg_T} (hA : ∀ q ∈ Bs, ∀ (β : List av_X) (lv : List (Nat × Value)) (st : List Value) (S : fw_S), as_in ad sm fl α0 S0 mod β q.2.2 lv st S → fw_W p l e0 (fw_rm fr lo mc) s0 m args below meth c0 Q D tc ad kd N nL (fw_Af ad N sz) q.1 lv st S q.2.1) :
    ∀ (f : Nat) (first : Bool) (n pc : Nat) (A : as_T), en_sgX oc nL fr lo mc na ret ff mod cs Cs cc Bs f first n pc A = true → ∀ (β : List av_X) (lv : List (Nat × Value)) (st : List Value) (S : fw_S), as_in ad sm fl α0 S0 mod β A lv st S → fw_W p l e0 (fw_rm fr lo mc) s0 m args below meth c0 Q D tc ad kd N nL (fw_Af ad N sz) pc lv st S n
  | 0, _, _, _, _, h => by cases h
  | f + 1, first, n, pc, A, h => by
    intro β lv st S H
    rw [en_sgX] at h
    split at h
    · obtain ⟨q, q1, q2⟩ := List.any_eq_true.mp h
      simp only [Bool.and_eq_true, decide_eq_true_eq, beq_iff_eq] at q2
      have := hA q q1 β lv st S (as_sub_in q2.2 H)
      rw [q2.1.1] at this
      exact fw_W_mono q2.1.2 this
    · split at h
      · rename_i i len hdg
        rw [Bool.and_eq_true] at h
        obtain ⟨hr, h⟩ := h
        split at h
        · rename_i k L hL
          have hk : ∀ w ∈ L, ∀ (β' : List av_X) (lv : List (Nat × Value)) (st : List Value) (S : fw_S), al_le β β' → as_in ad sm fl α0 S0 mod β' w.2 lv st S → fw_W p l e0 (fw_rm fr lo mc) s0 m args below meth c0 Q D tc ad kd N nL (fw_Af ad N sz) w.1 lv st S (n + k) :=
            fun w hw β' lv' st' S' _ b2 => en_sgX_in C0 hSt hK hfl ho hx hna hCs hX hA f false (n + k) w.1 w.2 (List.all_eq_true.mp h w hw) β' lv' st' S' b2
          unfold q_nx at hL
          split at hL
          · exact absurd hr (by decide)
          · exact absurd hr (by decide)
          · exact absurd hr (by decide)
          · exact absurd hr (by decide)
          · split at hL
            · rename_i hl
              subst hl
              exact sp_inv (vir := true) C0 hSt hK hfl ho hx hna hCs hdg hL H (fun rest S' E n' a b => hX pc lv rest S' E n' a b) hk
            · cases hL
          · split at hL
            · rename_i hl
              subst hl
              split at hL
              · rename_i r hr2
                cases hL
                exact sp_inv (vir := false) C0 hSt hK hfl ho hx hna hCs hdg hr2 H (fun rest S' E n' a b => hX pc lv rest S' E n' a b) hk
              · split at hL
                · rename_i L' hL'
                  cases hL
                  exact sp_step rfl C0 hSt hK.1 hfl ho hdg hL' H (fun q hq β lv st S b1 b2 => hk q hq β lv st S b1 b2)
                · cases hL
            · cases hL
          · split at hL
            · rename_i L' hL'
              cases hL
              exact sp_step rfl C0 hSt hK.1 hfl ho hdg hL' H (fun q hq β lv st S b1 b2 => hk q hq β lv st S b1 b2)
            · cases hL
        · cases h
      · cases h
end HX
section HY
variable {R : List av_X → fw_S → fw_O → fw_S → Prop} {ff : Nat → List md_T} {fl : fl_T} {C : ct_T} {Cs : List ct_T} {y : mt_T} {l : Launch} {D : va_G} {tc : Nat → ClassId} {ad : Nat → Nat} {kd : Nat → Nat × Nat} {N : Nat} {sm : Nat → Nat} {xs : List av_X} {S : fw_S}
variable {p : Program} {e : Env} {s : State} {m : MethodId} {args : Array Value} {below : List Frame} {meth : Method} {c : Code} {sz : Nat}
variable {pc n : Nat} {lv : List (Nat × Value)} {st : List Value} {α1 : List av_X} {A : as_T}
theorem as_rec0 (mod : List md_T) {mod0 : List md_T} (H : as_in ad sm fl xs S mod0 xs A lv st S) : as_in ad sm fl xs S mod xs (as_rec A []) lv st S := by
  obtain ⟨g1, g2, g3, g4, g5, g6, g7, g8, g9, g10, g11, g12⟩ := H
  exact ⟨g1, g2, g3, g4, g5, g6, (fun q hq => nomatch hq), g8, g9, g10, ⟨fun _ _ _ => ⟨rfl, rfl⟩, rfl⟩, rfl⟩
theorem ct_postX {mod : List md_T} {csX : List cs_T} (hm : mod.all (fun d => md_ok C.2.2.2.2.2.1 d.1.1 d.1.2 d.2) = true) (hc : ∀ q ∈ csX, q ∈ C.2.2.2.2.1) {oc : fw_O} {S' : fw_S} (hp : ct_post ad sm fl mod csX xs S oc S') : ct_post ad sm fl C.2.2.2.2.2.1 C.2.2.2.2.1 xs S oc S' := by
  obtain ⟨q, q1, q2, q3, q4, q5, q6, q7, q8⟩ := hp
  exact ⟨q, hc q q1, q2, q3, q4, q5, q6, q7, fr_comp ⟨fun _ _ _ => ⟨rfl, rfl⟩, rfl⟩ q8 hm⟩
/-- the first segment of a body; it may throw -/
theorem hd_segX (G : hd_C ff fl C Cs y l D tc ad kd N sm xs p s m args meth c sz) {mod : List md_T} {csX : List cs_T} {fuel : Nat} {Bs : List sg_T}
    (h : en_sgX y.2.2.2.2.1 y.2.2.1 C.2.2.2.2.2.2.1 C.2.2.2.2.2.2.2.1 C.2.2.2.2.2.2.2.2 C.2.1.length y.2.2.2.1 ff mod csX Cs y.2.1 Bs fuel true n pc A = true) (hm : mod.all (fun d => md_ok C.2.2.2.2.2.1 d.1.1 d.1.2 d.2) = true) (hc : ∀ q ∈ csX, q ∈ C.2.2.2.2.1)
    (he : α1 = xs) (H : as_in ad sm fl α1 S mod α1 A lv st S) (hB : ∀ q ∈ Bs, ∀ (β : List av_X) (lv : List (Nat × Value)) (st : List Value) (S' : fw_S), as_in ad sm fl α1 S mod β q.2.2 lv st S' → hd_W fl C y l D tc ad kd N sm xs S p e s m args below meth c sz q.1 lv st S' q.2.1) :
    hd_W fl C y l D tc ad kd N sm xs S p e s m args below meth c sz pc lv st S n := by
  subst he
  exact en_sgX_in (α0 := α1) G.1 G.2.1 G.2.2.1 G.2.2.2.1 G.2.2.2.2.2.2.2.2 G.2.2.2.2.1 G.2.2.2.2.2.1.symm G.2.2.2.2.2.2.2.1 (fun pc' lv' rest S' E n' hn hp => fw_out G.1 G.2.1 G.2.2.2.2.1 hn (ct_postX hm hc hp)) hB fuel true n pc A h α1 lv st S H
theorem hd_segXR (G : hd_C ff fl C Cs y l D tc ad kd N sm xs p s m args meth c sz) {mod : List md_T} {csX : List cs_T} {fuel : Nat} {Bs : List sg_T}
    (h : en_sgX y.2.2.2.2.1 y.2.2.1 C.2.2.2.2.2.2.1 C.2.2.2.2.2.2.2.1 C.2.2.2.2.2.2.2.2 C.2.1.length y.2.2.2.1 ff mod csX Cs y.2.1 Bs fuel true n pc A = true) (hm : mod.all (fun d => md_ok C.2.2.2.2.2.1 d.1.1 d.1.2 d.2) = true) (hc : ∀ q ∈ csX, q ∈ C.2.2.2.2.1)
    (hR : ∀ (E : String) (S' : fw_S), ct_post ad sm fl mod csX xs S (.inr E) S' → R xs S (.inr E) S')
    (he : α1 = xs) (H : as_in ad sm fl α1 S mod α1 A lv st S) (hB : ∀ q ∈ Bs, ∀ (β : List av_X) (lv : List (Nat × Value)) (st : List Value) (S' : fw_S), as_in ad sm fl α1 S mod β q.2.2 lv st S' → hd_WR R fl C y l D tc ad kd N sm xs S p e s m args below meth c sz q.1 lv st S' q.2.1) :
    hd_WR R fl C y l D tc ad kd N sm xs S p e s m args below meth c sz pc lv st S n := by
  subst he
  exact en_sgX_in (α0 := α1) G.1 G.2.1 G.2.2.1 G.2.2.2.1 G.2.2.2.2.2.2.2.2 G.2.2.2.2.1 G.2.2.2.2.2.1.symm G.2.2.2.2.2.2.2.1 (fun pc' lv' rest S' E n' hn hp => fw_out G.1 G.2.1 G.2.2.2.2.1 hn ⟨ct_postX hm hc hp, hR E S' hp⟩) hB fuel true n pc A h α1 lv st S H
/-- a segment from any place; it may throw -/
theorem hd_segXG (G : hd_C ff fl C Cs y l D tc ad kd N sm xs p s m args meth c sz) {mod : List md_T} {csX : List cs_T} {fuel na : Nat} {Bs : List sg_T} {S1 S2 : fw_S} {α : List av_X}
    (h : en_sgX y.2.2.2.2.1 y.2.2.1 C.2.2.2.2.2.2.1 C.2.2.2.2.2.2.2.1 C.2.2.2.2.2.2.2.2 na y.2.2.2.1 ff mod csX Cs y.2.1 Bs fuel true n pc A = true) (hna : α1.length = na)
    (hX : ∀ (E : String) (S' : fw_S), ct_post ad sm fl mod csX α1 S1 (.inr E) S' → ct_post ad sm fl C.2.2.2.2.2.1 C.2.2.2.2.1 xs S (.inr E) S' ∧ R xs S (.inr E) S')
    (H : as_in ad sm fl α1 S1 mod α A lv st S2) (hB : ∀ q ∈ Bs, ∀ (β : List av_X) (lv : List (Nat × Value)) (st : List Value) (S' : fw_S), as_in ad sm fl α1 S1 mod β q.2.2 lv st S' → hd_WR R fl C y l D tc ad kd N sm xs S p e s m args below meth c sz q.1 lv st S' q.2.1) :
    hd_WR R fl C y l D tc ad kd N sm xs S p e s m args below meth c sz pc lv st S2 n :=
  en_sgX_in (α0 := α1) G.1 G.2.1 G.2.2.1 G.2.2.2.1 G.2.2.2.2.2.2.2.2 G.2.2.2.2.1 hna G.2.2.2.2.2.2.2.1 (fun pc' lv' rest S' E n' hn hp => fw_out G.1 G.2.1 G.2.2.2.2.1 hn (hX E S' hp)) hB fuel true n pc A h α lv st S2 H
/-- a throw, where nothing has changed -/
theorem ct_thrown {i : Nat} {fls : List Nat} (hc : (i + 2, (0, 0, 0, 0), C.2.1, [], (fls, [])) ∈ C.2.2.2.2.1) (hx : en_in xs (en_of C.2.1)) (hf : ∀ g ∈ fls, fl g 0 0 0 S) (hg : gi_in S) : ct_post ad sm fl C.2.2.2.2.2.1 C.2.2.2.2.1 xs S (.inr (ex_nm i)) S :=
  ⟨_, hc, rfl, hx, (fun _ h => nomatch h), hf, (fun _ h => nomatch h), hg, ⟨fun _ _ _ => ⟨rfl, rfl⟩, rfl⟩⟩
end HY
