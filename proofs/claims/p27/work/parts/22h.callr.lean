/-! ===== calls with more to say than a contract ===== -/
def ct_okR (fl : fl_T) (C : ct_T) (R : List av_X → fw_S → fw_O → fw_S → Prop) : Prop := ∀ (y : mt_T), mt_at C.1 = some y → ∀ (l : Launch) (D : va_G) (tc : Nat → ClassId) (ad : Nat → Nat) (kd : Nat → Nat × Nat) (N : Nat) (sm : Nat → Nat) (xs : List av_X) (S : fw_S), kd_okl l kd N → en_in xs (en_of C.2.1) → (∀ r ∈ C.2.2.1, rg_in S r) → (∀ g ∈ C.2.2.2.1, fl g 0 0 0 S) → gi_in S →
  fw_Met l y.1 y.2.1 y.2.2.1 y.2.2.2.1 C.2.2.2.2.2.2.1 C.2.2.2.2.2.2.2.1 C.2.2.2.2.2.2.2.2 D tc ad kd N sm (xs.map (av_V ad sm)) S (fun oc S' => ct_post ad sm fl C.2.2.2.2.2.1 C.2.2.2.2.1 xs S oc S' ∧ R xs S oc S')
theorem ct_okR_ok {fl : fl_T} {C : ct_T} {R : List av_X → fw_S → fw_O → fw_S → Prop} (h : ct_okR fl C R) : ct_ok fl C := fun y hy l D tc ad kd N sm xs S h1 h2 h3 h4 h5 => fw_Met_mono (h y hy l D tc ad kd N sm xs S h1 h2 h3 h4 h5) (fun _ _ g => g.1)
section EN
variable {p : Program} {l : Launch} {e0 : Env} {s0 : State} {m : MethodId} {args : Array Value} {below : List Frame} {meth : Method} {c0 : Code}
variable {D : va_G} {tc : Nat → ClassId} {ad : Nat → Nat} {kd : Nat → Nat × Nat} {N nL : Nat} {own : String} {cc : ByteArray} {sm : Nat → Nat}
variable {fl : fl_T} {ff : Nat → List md_T} {α0 : List av_X} {S0 : fw_S} {mod : List md_T} {α : List av_X} {A A' : as_T} {lv : List (Nat × Value)} {st : List Value} {S : fw_S} {pc n : Nat}

variable {oc fr lo mc na : Nat} {ret : Option FieldType} {cs : List cs_T} {Cs : List ct_T} {sz : Nat}
theorem sp_invR {R : List av_X → fw_S → fw_O → fw_S → Prop} (C0 : fw_C p s0 m args meth c0 D tc (fw_Af ad N sz) own cc nL) (hSt : fw_St sm (fw_Af ad N sz) s0 s0.heap) (hK : kd_okl l kd N) (hfl : fl_ok ff fl) (ho : own = lk_own oc) (hx : ∀ x ∈ c0.exceptionTable.toList, False) (hna : α0.length = na) (hCs : ∀ Cc ∈ Cs, ct_okR fl Cc R) {Q : State → Prop} {vir : Bool} {idx k : Nat} {L : sp_L}
    (hdg : decode cc pc = .ok (if vir then .invokevirtual idx else .invokestatic idx, 3)) (h : q_inv oc ff mod na cs fr lo mc Cs vir n pc idx A = some (k, L)) (H : as_in ad sm fl α0 S0 mod α A lv st S)
    (hX : ∀ (rest : List Value) (S' : fw_S) (E : String) (n' : Nat), n' ≤ mc → ct_post ad sm fl mod cs α0 S0 (.inr E) S' → fw_T p l e0 (fw_rm fr lo mc) s0 m args below meth c0 Q D tc ad kd N nL (fw_Af ad N sz) pc lv rest S' n' E)
    (hk : ∀ q ∈ L, ∀ (β : List av_X) (lv : List (Nat × Value)) (st : List Value) (S' : fw_S), al_le α β → as_in ad sm fl α0 S0 mod β q.2 lv st S' → (∃ Cc ∈ Cs, ∃ (ys : List av_X) (r : Option Value), nm_in α ((A.2.2.1.take Cc.2.1.length).reverse) ys ∧ R ys S (.inl r) S' ∧ ∃ rest, st = r.toList ++ rest) → fw_W p l e0 (fw_rm fr lo mc) s0 m args below meth c0 Q D tc ad kd N nL (fw_Af ad N sz) q.1 lv st S' (n + k)) : fw_W p l e0 (fw_rm fr lo mc) s0 m args below meth c0 Q D tc ad kd N nL (fw_Af ad N sz) pc lv st S n := by
  unfold q_inv at h
  split at h
  · rename_i q hq
    split at h
    · rename_i y hy
      obtain ⟨q1, q2⟩ := lkm_at_in hq
      have hmt := mt_at_ok hy
      simp only [mt_b, Bool.and_eq_true, decide_eq_true_eq] at hmt
      obtain ⟨⟨⟨⟨⟨⟨⟨m1, m2⟩, m3⟩, m4⟩, m5⟩, m6⟩, m7⟩, m8⟩ := hmt
      split at h
      · rename_i hv
        obtain ⟨Cc, d1, d2, d3, d4⟩ := q_cls_in h
        obtain ⟨d1, d5⟩ := List.mem_filter.mp d1
        replace d5 : Cc.2.1.length = q_ac vir y.2.2.2.2.2.2.1 := by simpa using d5
        obtain ⟨ys, rest, e1, e2, e3, e4, e5, e6, e7, e8, e9, e10⟩ := q_call_in hfl d4 H hna
        have hM := hCs Cc d1 y (by rw [d2]; exact hy) l D tc ad kd N sm ys S hK e3 e4 e5 e6
        have hys : ys.length = Cc.2.1.length := by rw [e3.1]; simp [en_of]
        have kr : ∀ (r : Option Value) (S' : fw_S), (ct_post ad sm fl Cc.2.2.2.2.2.1 Cc.2.2.2.2.1 ys S (.inl r) S' ∧ R ys S (.inl r) S') → fw_W p l e0 (fw_rm fr lo mc) s0 m args below meth c0 Q D tc ad kd N nL (fw_Af ad N sz) (pc + 3) lv (r.toList ++ rest) S' (n + Cc.2.2.2.2.2.2.2.2) := by
          intro r S' hp
          obtain ⟨B, β, b1, b2, b3⟩ := e9 r S' hp.1
          rw [d3]
          exact hk _ b1 β _ _ _ b2 b3 ⟨Cc, d1, ys, r, e2, hp.2, rest, rfl⟩
        have kx : ∀ (E : String) (S' : fw_S), (ct_post ad sm fl Cc.2.2.2.2.2.1 Cc.2.2.2.2.1 ys S (.inr E) S' ∧ R ys S (.inr E) S') → fw_T p l e0 (fw_rm fr lo mc) s0 m args below meth c0 Q D tc ad kd N nL (fw_Af ad N sz) pc lv rest S' (n + Cc.2.2.2.2.2.2.2.2) E :=
          fun E S' hp => hX _ _ _ _ e8 (e10 E S' hp.1)
        have wc := lk_code_in m1
        have wi := lk_chk_in m2
        unfold lkm_b at q2
        rw [q1] at q2
        rw [← ho] at q2
        cases vir with
        | false =>
          replace hv : q.2.1 = 0 ∨ q.2.1 = 2 := by simpa [q_vk] using hv
          replace d5 : Cc.2.1.length = y.2.2.2.2.2.2.1 := d5
          replace hdg : decode cc pc = .ok (.invokestatic idx, 3) := hdg
          have hst : st = (ys.map (av_V ad sm)).reverse ++ rest := by rw [e1, List.map_reverse]
          have hlen : (ys.map (av_V ad sm)).length = y.2.2.2.2.2.2.1 := by rw [List.length_map, hys, d5]
          rcases hv with hv | hv
          · rw [hv] at q2
            rw [hy] at q2
            simp only [Bool.and_eq_true, decide_eq_true_eq] at q2
            rw [if_pos q2.1] at m8
            exact fw_callS C0 hSt hM ⟨m3, m4, by rw [m5, hlen]⟩ (lk_chk_in q2.2) (lk_chk_in m8) wi wc e7 hst hdg kr kx
          · rw [hv] at q2
            rw [hy] at q2
            simp only [Bool.and_eq_true, decide_eq_true_eq] at q2
            rw [if_pos q2.1] at m8
            exact fw_callSN C0 hSt hM ⟨m3, m4, by rw [m5, hlen]⟩ (lk_at_in q2.2 rfl) (lk_chk_in m8) wi wc e7 hst hdg kr kx
        | true =>
          replace d5 : Cc.2.1.length = y.2.2.2.2.2.2.1 + 1 := d5
          replace hdg : decode cc pc = .ok (.invokevirtual idx, 3) := hdg
          obtain ⟨hv, hrc⟩ : q.2.1 = 1 ∧ q_rc A (y.2.2.2.2.2.2.1 + 1) y.2.2.2.2.1 = true := by simpa [q_vk] using hv
          rw [hv] at q2
          rw [hy] at q2
          simp only [Bool.and_eq_true, decide_eq_true_eq] at q2
          rw [if_neg (by rw [q2.1]; decide)] at m8
          simp only [Bool.and_eq_true, decide_eq_true_eq] at m8
          rw [← d5] at hrc
          unfold q_rc at hrc
          split at hrc
          · rename_i v vs hnm
            split at hrc
            · rename_i w hw
              simp only [Bool.and_eq_true, beq_iff_eq] at hrc
              rw [hnm] at e2
              obtain ⟨x, x1, x2⟩ := e2.2 0 v rfl
              match ys, x1 with
              | x0 :: ys', x1 =>
                cases x1
                obtain ⟨a, dd, g1, g2, g3⟩ := q_rk_in hw
                obtain ⟨a', g4, g5, -⟩ := en_some H.2.1 x2
                cases g4.symm.trans g1
                obtain ⟨xk, xm⟩ := x
                have hxk : xk = 2 := g5.1.trans g2
                subst hxk
                have hxm : 0 ≤ xm := g5.2.1
                have hnat : ((xm.toNat : Nat) : Int) = xm := Int.toNat_of_nonneg hxm
                obtain ⟨f1, f2, f3, f4⟩ := g3 xm.toNat (by rw [hnat]; exact g5)
                cases hc : vwCl[y.2.2.2.2.1]? with
                | none => rw [hc] at m8; simp at m8
                | some cl =>
                  rw [hc] at m8
                  have hcl : cl.1 = y.1.cls := by simpa using m8.2
                  have hn : cl_n y.2.2.2.2.1 = cl.2.2 := by unfold cl_n; rw [hc]
                  have hkd : wd_kd xm.toNat = (y.2.2.2.2.1 + 6, cl.2.2) := by rw [f4, ← hn, ← hrc.1, ← hrc.2]
                  have hst : st = (ys'.map (av_V ad sm)).reverse ++ .ref (ad xm.toNat) :: rest := by
                    rw [e1]
                    simp [av_V]
                  have hlen : (ys'.map (av_V ad sm)).length = y.2.2.2.2.2.2.1 := by
                    rw [List.length_map]
                    simp only [List.length_cons] at hys
                    omega
                  exact fw_callV (b := xm.toNat) (ci := y.2.2.2.2.1) (n0 := cl.2.2) (T := cl.2.1) (av := ys'.map (av_V ad sm)) C0 hSt hM (Nat.lt_of_lt_of_le f3 hK.1.1) ((hK.1.2 _ f3).trans hkd) (by rw [hc, ← hcl]) ⟨m3, m4, by rw [m5, hlen]⟩ (lk_chk_in q2.2) (lk_chk_in m8.1.1) (lk_chk_in m8.1.2) wi wc e7 hst hdg kr kx
              | [], x1 => cases x1
            · cases hrc
          · cases hrc
      · cases h
    · cases h
  · cases h
end EN
def hd_WR (R : List av_X → fw_S → fw_O → fw_S → Prop) (fl : fl_T) (C : ct_T) (y : mt_T) (l : Launch) (D : va_G) (tc : Nat → ClassId) (ad : Nat → Nat) (kd : Nat → Nat × Nat) (N : Nat) (sm : Nat → Nat) (xs : List av_X) (S : fw_S) (p : Program) (e : Env) (s : State) (m : MethodId) (args : Array Value) (below : List Frame) (meth : Method) (c : Code) (sz : Nat) (pc : Nat) (lv : List (Nat × Value)) (st : List Value) (S' : fw_S) (n : Nat) : Prop :=
  fw_W p l e (fw_rm C.2.2.2.2.2.2.1 C.2.2.2.2.2.2.2.1 C.2.2.2.2.2.2.2.2) s m args below meth c (vx_MQ below (fw_Q D tc ad kd N sm (fw_Af ad N sz) (fun oc S' => ct_post ad sm fl C.2.2.2.2.2.1 C.2.2.2.2.1 xs S oc S' ∧ R xs S oc S')) (fw_X D tc ad kd N sm (fw_Af ad N sz) (fun oc S' => ct_post ad sm fl C.2.2.2.2.2.1 C.2.2.2.2.1 xs S oc S' ∧ R xs S oc S')) args s C.2.2.2.2.2.2.2.2 (6 * C.2.2.2.2.2.2.2.2) (fw_Af ad N sz)) D tc ad kd N y.2.2.1 (fw_Af ad N sz) pc lv st S' n
section HG
variable {R : List av_X → fw_S → fw_O → fw_S → Prop} {ff : Nat → List md_T} {fl : fl_T} {C : ct_T} {Cs : List ct_T} {y : mt_T} {l : Launch} {D : va_G} {tc : Nat → ClassId} {ad : Nat → Nat} {kd : Nat → Nat × Nat} {N : Nat} {sm : Nat → Nat} {xs : List av_X} {S : fw_S}
variable {p : Program} {e : Env} {s : State} {m : MethodId} {args : Array Value} {below : List Frame} {meth : Method} {c : Code} {sz : Nat}
variable {pc n : Nat} {lv : List (Nat × Value)} {st : List Value} {S1 S0 : fw_S} {α α0 : List av_X} {A : as_T}
/-- a contract by hand -/
theorem ct_handR (hfl : fl_ok ff fl) (hy : mt_at C.1 = some y) (hCs : ∀ Cc ∈ Cs, ct_ok fl Cc) (har : decide (ar_w C.2.1 ≤ y.2.2.1) = true)
    (body : ∀ (l : Launch) (D : va_G) (tc : Nat → ClassId) (ad : Nat → Nat) (kd : Nat → Nat × Nat) (N : Nat) (sm : Nat → Nat) (xs : List av_X) (S : fw_S) (p : Program) (e : Env) (s : State) (m : MethodId) (args : Array Value) (below : List Frame) (meth : Method) (c : Code) (sz : Nat) (lv : List (Nat × Value)),
      hd_C ff fl C Cs y l D tc ad kd N sm xs p s m args meth c sz → as_in ad sm fl xs S C.2.2.2.2.2.1 xs (hd_0 C) lv [] S → hd_WR R fl C y l D tc ad kd N sm xs S p e s m args below meth c sz 0 lv [] S 0) : ct_okR fl C R := by
  intro y' hy'
  cases hy.symm.trans hy'
  intro l D tc ad kd N sm xs S hK hxs hrs hfs hgi
  have hmt := mt_at_ok hy
  simp only [mt_b, Bool.and_eq_true, decide_eq_true_eq] at hmt
  obtain ⟨⟨⟨⟨⟨⟨⟨m1, m2⟩, m3⟩, m4⟩, m5⟩, m6⟩, m7⟩, m8⟩ := hmt
  have h1 : ar_w C.2.1 ≤ y.2.2.1 := of_decide_eq_true har
  have hlen : C.2.1.length = xs.length := by rw [hxs.1]; simp [en_of]
  have hax : ∀ (j : Nat) (a : av_T), C.2.1[j]? = some a → ∃ x, xs[j]? = some x ∧ av_in a x := by
    intro j a ha
    obtain ⟨x, x1, x2, -⟩ := hxs.2 j (a, none) (by unfold en_of; rw [List.getElem?_map, ha]; rfl)
    exact ⟨x, x1, x2⟩
  refine fw_ofW m6 (by rw [sl_len C.2.1 xs hlen hax]; exact h1) ?_
  intro sz p e s m args below meth c C0 hSt hret hex _
  exact body l D tc ad kd N sm xs S p e s m args below meth c sz _ ⟨C0, hSt, hK, hfl, hex, hlen, hret, hCs, m7⟩
    ⟨al_le.refl, hxs, lc_in2 C.2.1 xs 0 0 hlen hax (fun j x hx => by rw [Nat.zero_add]; exact hx), trivial, fun q hq => by (exfalso; exact List.not_mem_nil hq), fun q hq => by (exfalso; exact List.not_mem_nil hq), fun q hq => by (exfalso; exact List.not_mem_nil hq), hrs, hfs, hgi, ⟨fun _ _ _ => ⟨rfl, rfl⟩, rfl⟩, trivial⟩
/-- the return of an int, with what it is to the arguments -/
theorem hd_retIR (G : hd_C ff fl C Cs y l D tc ad kd N sm xs p s m args meth c sz) (hdg : decode y.2.1 pc = .ok (.ireturn, 1)) (H : as_in ad sm fl xs S C.2.2.2.2.2.1 α A lv st S1) (cq : cs_T) (hc : cq ∈ C.2.2.2.2.1) {v : Nat} (hst : A.2.2.1 = [v])
    (hq : q_eI y.2.2.2.1 C.2.1.length [(cq.1, cq.2.1, cq.2.2.1, cq.2.2.2.1, (cq.2.2.2.2.1, []))] A = true) (hn : n ≤ C.2.2.2.2.2.2.2.2) (hr : ∀ w ∈ cq.2.2.2.2.2, ∃ x y : av_X, xs[w.2.1]? = some x ∧ xs[w.2.2]? = some y ∧ fl w.1 (nv α v) x.2 y.2 S) (hRr : ∀ x : Int32, x.toInt = nv α v → R xs S (.inl (some (.int x))) S1) :
    hd_WR R fl C y l D tc ad kd N sm xs S p e s m args below meth c sz pc lv st S1 n := by
  unfold q_eI at hq
  rw [hst] at hq
  dsimp only at hq
  split at hq
  · rename_i a ha
    rw [Bool.and_eq_true] at hq
    obtain ⟨d, a1, a2⟩ := q_av_some ha
    obtain ⟨x, st', rfl, x1, x2, H2⟩ := as_popi (as_q H hst) a1 a2
    have hp0 : ct_post ad sm fl C.2.2.2.2.2.1 [(cq.1, cq.2.1, cq.2.2.1, cq.2.2.2.1, (cq.2.2.2.2.1, []))] xs S (.inl (some (.int x))) S1 := q_cs_in hq.2 H G.2.2.2.2.2.1.symm
      (fun b hb => ⟨(0, x.toInt), by show _ = Sum.inl (some (Value.int (Int32.ofInt x.toInt))); rw [Int32.ofInt_toInt], hb v rfl _ x1⟩) (fun i hi => by cases hi; exact ⟨_, x1⟩)
    have hp : ct_post ad sm fl C.2.2.2.2.2.1 C.2.2.2.2.1 xs S (.inl (some (.int x))) S1 := by
      obtain ⟨q, q1, q2, q3, q4, q5, q6, q7, q8⟩ := hp0
      rcases List.mem_singleton.mp q1 with rfl
      refine ⟨cq, hc, q2, q3, q4, q5, fun w hw v' hv' => ?_, q7, q8⟩
      cases hv'
      rw [nv_at x1] at hr
      exact hr w hw
    have hst2 : st' = [] := by
      have := H2.2.2.2.1
      match st', this with
      | [], _ => rfl
      | _ :: _, z => exact z.elim
    subst hst2
    have hret := G.2.2.2.2.2.2.1
    rw [Bool.or_eq_true] at hq
    rcases hq.1 with g | g
    · exact fw_iret G.1 G.2.1 (hret.trans (of_decide_eq_true g)) hn ⟨hp, hRr x (nv_at x1).symm⟩ hdg
    · simp only [Bool.and_eq_true, decide_eq_true_eq] at g
      have l1 := x2.2.2.1
      have l2 := x2.2.2.2.1
      dsimp only at l1 l2
      refine fw_zret G.1 G.2.1 (hret.trans g.1.1) ?_ hn ⟨hp, hRr x (nv_at x1).symm⟩ hdg
      have : x.toInt = 0 ∨ x.toInt = 1 := by omega
      rcases this with e | e
      · have : x = 0 := Int32.toInt_inj.mp (e.trans rfl)
        subst this; decide
      · have : x = 1 := Int32.toInt_inj.mp (e.trans rfl)
        subst this; decide
  · cases hq
theorem hd_segMR (G : hd_C ff fl C Cs y l D tc ad kd N sm xs p s m args meth c sz) {mod : List md_T} {na fuel : Nat} {first : Bool} {Bs : List sg_T} (h : en_sg y.2.2.2.2.1 y.2.2.1 C.2.2.2.2.2.2.1 C.2.2.2.2.2.2.2.1 C.2.2.2.2.2.2.2.2 na y.2.2.2.1 ff mod Cs y.2.1 Bs fuel first n pc A = true) (hna : α0.length = na)
    (H : as_in ad sm fl α0 S0 mod α A lv st S1) (hB : ∀ q ∈ Bs, ∀ (β : List av_X) (lv : List (Nat × Value)) (st : List Value) (S' : fw_S), as_in ad sm fl α0 S0 mod β q.2.2 lv st S' → hd_WR R fl C y l D tc ad kd N sm xs S p e s m args below meth c sz q.1 lv st S' q.2.1) :
    hd_WR R fl C y l D tc ad kd N sm xs S p e s m args below meth c sz pc lv st S1 n :=
  en_sg_in (α0 := α0) G.1 G.2.1 G.2.2.1 G.2.2.2.1 G.2.2.2.2.2.2.2.2 G.2.2.2.2.1 hna G.2.2.2.2.2.2.2.1 hB fuel first n pc A h α lv st S1 H
/-- the return of nothing -/
theorem hd_retVR (G : hd_C ff fl C Cs y l D tc ad kd N sm xs p s m args meth c sz) (hdg : decode y.2.1 pc = .ok (.return_, 1)) (H : as_in ad sm fl xs S C.2.2.2.2.2.1 α A lv st S1) (h : q_eV y.2.2.2.1 C.2.1.length C.2.2.2.2.1 A = true) (hn : n ≤ C.2.2.2.2.2.2.2.2) (hr : R xs S (.inl none) S1) :
    hd_WR R fl C y l D tc ad kd N sm xs S p e s m args below meth c sz pc lv st S1 n := by
  unfold q_eV at h
  split at h
  · rename_i hs
    rw [Bool.and_eq_true, decide_eq_true_eq] at h
    have hp : ct_post ad sm fl C.2.2.2.2.2.1 C.2.2.2.2.1 xs S (.inl none) S1 := q_cs_in h.2 H G.2.2.2.2.2.1.symm (fun b _ => rfl) (fun i hi => by cases hi)
    have hst : st = [] := by
      have := H.2.2.2.1
      rw [hs] at this
      match st, this with
      | [], _ => rfl
      | _ :: _, z => exact z.elim
    subst hst
    exact fw_vret G.1 G.2.1 (G.2.2.2.2.2.2.1.trans h.1) hn ⟨hp, hr⟩ hdg
  · cases h
/-- a call by hand, of a method with more to say -/
theorem hd_callR {Rr : List av_X → fw_S → fw_O → fw_S → Prop} {Rs : List ct_T} (G : hd_C ff fl C Cs y l D tc ad kd N sm xs p s m args meth c sz) (hR : ∀ Cc ∈ Rs, ct_okR fl Cc Rr) {mod : List md_T} {na idx : Nat} {Bs : List sg_T} (hdg : decode y.2.1 pc = .ok (.invokevirtual idx, 3))
    (h : (match q_inv y.2.2.2.2.1 ff mod na [] C.2.2.2.2.2.2.1 C.2.2.2.2.2.2.2.1 C.2.2.2.2.2.2.2.2 Rs true n pc idx A with | some w => w.2.all (fun u => Bs.any (fun q => q.1 == u.1 && decide (n + w.1 ≤ q.2.1) && as_sub u.2 q.2.2)) | none => false) = true) (hna : α0.length = na)
    (H : as_in ad sm fl α0 S0 mod α A lv st S1) (hB : ∀ q ∈ Bs, ∀ (β : List av_X) (lv : List (Nat × Value)) (st : List Value) (S' : fw_S), as_in ad sm fl α0 S0 mod β q.2.2 lv st S' → (∃ Cc ∈ Rs, ∃ (ys : List av_X) (r : Option Value), nm_in α ((A.2.2.1.take Cc.2.1.length).reverse) ys ∧ Rr ys S1 (.inl r) S' ∧ ∃ rest, st = r.toList ++ rest) → hd_W fl C y l D tc ad kd N sm xs S p e s m args below meth c sz q.1 lv st S' q.2.1) :
    hd_W fl C y l D tc ad kd N sm xs S p e s m args below meth c sz pc lv st S1 n := by
  split at h
  · rename_i w hw
    obtain ⟨k, L⟩ := w
    refine sp_invR (vir := true) (α0 := α0) (R := Rr) G.1 G.2.1 G.2.2.1 G.2.2.2.1 G.2.2.2.2.2.2.2.2 G.2.2.2.2.1 hna hR hdg hw H (fun _ _ _ _ _ hp => by
      obtain ⟨q, q1, -⟩ := hp
      cases q1) (fun u hu β lv' st' S' _ b2 b3 => ?_)
    obtain ⟨q, q1, q2⟩ := List.any_eq_true.mp (List.all_eq_true.mp h u hu)
    simp only [Bool.and_eq_true, decide_eq_true_eq, beq_iff_eq] at q2
    have := hB q q1 β lv' st' S' (as_sub_in q2.2 b2) b3
    rw [q2.1.1] at this
    exact fw_W_mono q2.1.2 this
  · cases h
/-- the same, where more is to be said -/
theorem hd_callRR {Rr : List av_X → fw_S → fw_O → fw_S → Prop} {Rs : List ct_T} (G : hd_C ff fl C Cs y l D tc ad kd N sm xs p s m args meth c sz) (hR : ∀ Cc ∈ Rs, ct_okR fl Cc Rr) {mod : List md_T} {na idx : Nat} {Bs : List sg_T} (hdg : decode y.2.1 pc = .ok (.invokevirtual idx, 3))
    (h : (match q_inv y.2.2.2.2.1 ff mod na [] C.2.2.2.2.2.2.1 C.2.2.2.2.2.2.2.1 C.2.2.2.2.2.2.2.2 Rs true n pc idx A with | some w => w.2.all (fun u => Bs.any (fun q => q.1 == u.1 && decide (n + w.1 ≤ q.2.1) && as_sub u.2 q.2.2)) | none => false) = true) (hna : α0.length = na)
    (H : as_in ad sm fl α0 S0 mod α A lv st S1) (hB : ∀ q ∈ Bs, ∀ (β : List av_X) (lv : List (Nat × Value)) (st : List Value) (S' : fw_S), as_in ad sm fl α0 S0 mod β q.2.2 lv st S' → (∃ Cc ∈ Rs, ∃ (ys : List av_X) (r : Option Value), nm_in α ((A.2.2.1.take Cc.2.1.length).reverse) ys ∧ Rr ys S1 (.inl r) S' ∧ ∃ rest, st = r.toList ++ rest) → hd_WR R fl C y l D tc ad kd N sm xs S p e s m args below meth c sz q.1 lv st S' q.2.1) :
    hd_WR R fl C y l D tc ad kd N sm xs S p e s m args below meth c sz pc lv st S1 n := by
  split at h
  · rename_i w hw
    obtain ⟨k, L⟩ := w
    refine sp_invR (vir := true) (α0 := α0) (R := Rr) G.1 G.2.1 G.2.2.1 G.2.2.2.1 G.2.2.2.2.2.2.2.2 G.2.2.2.2.1 hna hR hdg hw H (fun _ _ _ _ _ hp => by
      obtain ⟨q, q1, -⟩ := hp
      cases q1) (fun u hu β lv' st' S' _ b2 b3 => ?_)
    obtain ⟨q, q1, q2⟩ := List.any_eq_true.mp (List.all_eq_true.mp h u hu)
    simp only [Bool.and_eq_true, decide_eq_true_eq, beq_iff_eq] at q2
    have := hB q q1 β lv' st' S' (as_sub_in q2.2 b2) b3
    rw [q2.1.1] at this
    exact fw_W_mono q2.1.2 this
  · cases h
/-- the result of such a call -/
theorem hd_rv {α0 : List av_X} {S0 : fw_S} {mod : List md_T} {v : Int32} {i : Nat} {is : List Nat} {q : en_E} {rest : List Value} {r : Option Value} (H : as_in ad sm fl α0 S0 mod α A lv st S1) (hs : A.2.2.1 = i :: is) (hi : A.1[i]? = some q) (h0 : q.1.1 = 0) (he : st = r.toList ++ rest) (hr : r = some (.int v)) : v.toInt = nv α i := by
  obtain ⟨x, st', e1, x1, -⟩ := as_popi (as_q H hs) hi h0
  rw [hr] at he
  have e2 : Value.int x :: st' = Value.int v :: rest := e1.symm.trans he
  cases e2
  exact (nv_at x1).symm
end HG
