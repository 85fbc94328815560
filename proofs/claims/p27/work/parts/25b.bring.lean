/-! ===== images: bring, and keep over an image that is there ===== -/
section BR
variable {p : Program} {l : Launch} {e : Env} {R : Room} {s : State} {m : MethodId} {args : Array Value} {below : List Frame} {meth : Method} {c : Code} {Q : State → Prop}
variable {D : va_G} {tc : Nat → ClassId} {ad : Nat → Nat} {kd : Nat → Nat × Nat} {N nL : Nat} {A : Nat → Prop} {own : String} {cc : ByteArray} {st : Nat → Nat}
variable {pc n : Nat} {lv : List (Nat × Value)} {rest : List Value} {S : fw_S} {a b : Nat}
theorem fw_astoreN (C0 : fw_C p s m args meth c D tc A own cc nL) {i : Nat} {k0 : Fin 4} (hi : (k0 : Nat) = i) (hn : i < nL) (hdg : decode cc pc = .ok (.astore_n k0, 1))
    (k : fw_W p l e R s m args below meth c Q D tc ad kd N nL A (pc + 1) (fw_st1 lv i .null) rest S n) : fw_W p l e R s m args below meth c Q D tc ad kd N nL A pc lv (.null :: rest) S n :=
  fun H locs ls cells slots h1 h2 hP hD hS hl => lv_astore_nN C0.1 C0.2.1 hdg hi hl hn rfl (fun ls1 hl1 => k H locs ls1 cells slots h1 h2 hP hD hS hl1)
theorem fw_aloadN (C0 : fw_C p s m args meth c D tc A own cc nL) {i : Fin 4} (h : ((i : Nat), Value.null) ∈ lv) (hdg : decode cc pc = .ok (.aload_n i, 1))
    (k : fw_W p l e R s m args below meth c Q D tc ad kd N nL A (pc + 1) lv (.null :: rest) S n) : fw_W p l e R s m args below meth c Q D tc ad kd N nL A pc lv rest S n :=
  fun H locs ls cells slots h1 h2 hP hD hS hl => lv_aload_nN C0.1 C0.2.1 hdg rfl (hl.2.2 _ h) (k H locs ls cells slots h1 h2 hP hD hS hl)
theorem fw_ifnullN (C0 : fw_C p s m args meth c D tc A own cc nL) {off : Int} {tgt : Nat} (ht : (pc : Int) + off = (tgt : Int)) (hdg : decode cc pc = .ok (.ifnull off, 3))
    (k : fw_W p l e R s m args below meth c Q D tc ad kd N nL A tgt lv rest S n) : fw_W p l e R s m args below meth c Q D tc ad kd N nL A pc lv (.null :: rest) S n :=
  fun H locs ls cells slots h1 h2 hP hD hS hl => lv_ifnullN C0.1 C0.2.1 hdg ht (k H locs ls cells slots h1 h2 hP hD hS hl)
theorem fw_ifnull (C0 : fw_C p s m args meth c D tc A own cc nL) {off : Int} {x : Nat} (hdg : decode cc pc = .ok (.ifnull off, 3))
    (k : fw_W p l e R s m args below meth c Q D tc ad kd N nL A (pc + 3) lv rest S n) : fw_W p l e R s m args below meth c Q D tc ad kd N nL A pc lv (.ref x :: rest) S n :=
  fun H locs ls cells slots h1 h2 hP hD hS hl => lv_ifnull C0.1 C0.2.1 hdg (k H locs ls cells slots h1 h2 hP hD hS hl)
theorem fw_ifnonnull (C0 : fw_C p s m args meth c D tc A own cc nL) {off : Int} {tgt x : Nat} (ht : (pc : Int) + off = (tgt : Int)) (hdg : decode cc pc = .ok (.ifnonnull off, 3))
    (k : fw_W p l e R s m args below meth c Q D tc ad kd N nL A tgt lv rest S n) : fw_W p l e R s m args below meth c Q D tc ad kd N nL A pc lv (.ref x :: rest) S n :=
  fun H locs ls cells slots h1 h2 hP hD hS hl => lv_ifnonnull C0.1 C0.2.1 hdg ht (k H locs ls cells slots h1 h2 hP hD hS hl)
theorem fw_ifnonnullN (C0 : fw_C p s m args meth c D tc A own cc nL) {off : Int} (hdg : decode cc pc = .ok (.ifnonnull off, 3))
    (k : fw_W p l e R s m args below meth c Q D tc ad kd N nL A (pc + 3) lv rest S n) : fw_W p l e R s m args below meth c Q D tc ad kd N nL A pc lv (.null :: rest) S n :=
  fun H locs ls cells slots h1 h2 hP hD hS hl => lv_ifnonnullN C0.1 C0.2.1 hdg (k H locs ls cells slots h1 h2 hP hD hS hl)
/-- a static method's call, whatever it answers -/
theorem fw_cG {Post : fw_O → fw_S → Prop} (C0 : fw_C p s m args meth c D tc A own cc nL) (hSt : fw_St st A s s.heap) {oc idx fr lo mc : Nat} {q : lk_F} {y : mt_T} {av st0 : List Value} (ho : own = lk_own oc) (hq : lkm_at oc idx = some q) (hv : q.2.1 = 0) (hy : mt_at q.2.2.1 = some y)
    (hM : fw_Met l y.1 y.2.1 y.2.2.1 y.2.2.2.1 fr lo mc D tc ad kd N st av S Post) (hlen : av.length = y.2.2.2.2.2.2.1) (hR : fw_R R y.2.2.1 fr lo n mc rest) (hst : st0 = av.reverse ++ rest) (hdg : decode cc pc = .ok (.invokestatic idx, 3))
    (kr : ∀ (r : Option Value) (S' : fw_S), Post (.inl r) S' → fw_W p l e R s m args below meth c Q D tc ad kd N nL A (pc + 3) lv (r.toList ++ rest) S' (n + mc))
    (kx : ∀ (E : String) (S' : fw_S), Post (.inr E) S' → fw_T p l e R s m args below meth c Q D tc ad kd N nL A pc lv rest S' (n + mc) E) : fw_W p l e R s m args below meth c Q D tc ad kd N nL A pc lv st0 S n := by
  obtain ⟨q1, q2⟩ := lkm_at_in hq
  have hmt := mt_at_ok hy
  simp only [mt_b, Bool.and_eq_true, decide_eq_true_eq] at hmt
  obtain ⟨⟨⟨⟨⟨⟨⟨m1, m2⟩, m3⟩, m4⟩, m5⟩, m6⟩, m7⟩, m8⟩ := hmt
  have wc := lk_code_in m1
  have wi := lk_chk_in m2
  unfold lkm_b at q2
  rw [q1] at q2
  rw [← ho] at q2
  rw [hv] at q2
  rw [hy] at q2
  simp only [Bool.and_eq_true, decide_eq_true_eq] at q2
  rw [if_pos q2.1] at m8
  exact fw_callS C0 hSt hM ⟨m3, m4, by rw [m5, hlen]⟩ (lk_chk_in q2.2) (lk_chk_in m8) wi wc hR hst hdg kr kx
theorem fw_isWithin {x lo hi : Int32} : fw_Met l ⟨"UtilityWorks", "isWithin", "(III)Z"⟩ prog_1_method_118_code 3 (some .boolean) 1 60 0 D tc ad kd N st [.int x, .int lo, .int hi] S (fun o S' => o = .inl (some (.int (if lo.toInt ≤ x.toInt ∧ x.toInt ≤ hi.toInt then 1 else 0))) ∧ S' = S) :=
  fw_ofW (by decide +kernel) (Nat.le_of_ble_eq_true rfl) (fun sz p e s m args below meth c C0 hSt hret hex hname => by
    have l0 : ((0 : Nat), Value.int x) ∈ lv_args 0 [.int x, .int lo, .int hi] := List.mem_cons_self
    have l1 : ((1 : Nat), Value.int lo) ∈ lv_args 0 [.int x, .int lo, .int hi] := List.mem_cons_of_mem _ List.mem_cons_self
    have l2 : ((2 : Nat), Value.int hi) ∈ lv_args 0 [.int x, .int lo, .int hi] := List.mem_cons_of_mem _ (List.mem_cons_of_mem _ List.mem_cons_self)
    refine fw_iload_n (i := 0) C0 l0 (by decide +kernel) ?_
    refine fw_iload_n (i := 1) C0 l1 (by decide +kernel) ?_
    refine fw_icmp_lt (off := 12) (tgt := 14) C0 (by decide) (by decide +kernel) (fun g => ?_) (fun g => ?_)
    · refine fw_iconst (n0 := 0) C0 (by decide +kernel) ?_
      refine fw_zret C0 hSt hret rfl (Nat.le_refl _) ⟨?_, rfl⟩ (by decide +kernel)
      have := Int32.lt_iff_toInt_lt.mp g
      rw [if_neg (by omega)]
      rfl
    · refine fw_iload_n (i := 0) C0 l0 (by decide +kernel) ?_
      refine fw_iload_n (i := 2) C0 l2 (by decide +kernel) ?_
      refine fw_icmp_gt (off := 7) (tgt := 14) C0 (by decide) (by decide +kernel) (fun g2 => ?_) (fun g2 => ?_)
      · refine fw_iconst (n0 := 0) C0 (by decide +kernel) ?_
        refine fw_zret C0 hSt hret rfl (Nat.le_refl _) ⟨?_, rfl⟩ (by decide +kernel)
        have := Int32.lt_iff_toInt_lt.mp g2
        rw [if_neg (by omega)]
        rfl
      · refine fw_iconst (n0 := 1) C0 (by decide +kernel) ?_
        refine fw_goto (off := 4) (tgt := 15) C0 (by decide) (by decide +kernel) ?_
        refine fw_zret C0 hSt hret rfl (Nat.le_refl _) ⟨?_, rfl⟩ (by decide +kernel)
        have h1 : ¬ x.toInt < lo.toInt := fun q => g (Int32.lt_iff_toInt_lt.mpr q)
        have h2 : ¬ hi.toInt < x.toInt := fun q => g2 (Int32.lt_iff_toInt_lt.mpr q)
        rw [if_pos (by omega)]
        rfl)
/-- a demand on a boolean: it goes on, or throws, and nothing changes -/
theorem fr_nil {S S' : fw_S} (h : fr_in [] S S') : S' = S := by
  refine Prod.ext (funext fun k => funext fun j => ?_) (Prod.ext (funext fun k => funext fun j => ?_) h.2)
  · exact (h.1 k j (fun ⟨_, q, _⟩ => nomatch q)).1
  · exact (h.1 k j (fun ⟨_, q, _⟩ => nomatch q)).2
theorem fw_needThing (hK : kd_okl l kd N) (hgi : gi_in S) {x : Int32} (hx : x = 0 ∨ x = 1) : fw_Met l ⟨"UtilityWorks", "needThing", "(Z)V"⟩ prog_1_method_115_code 1 none 6 81 1 D tc ad kd N st [.int x] S (fun o S' => ((x = 1 ∧ o = .inl none) ∨ (x = 0 ∧ o = .inr (ex_nm 2))) ∧ S' = S) := by
  have hr : 0 ≤ x.toInt ∧ x.toInt ≤ 1 := by rcases hx with g | g <;> rw [g] <;> decide
  have h := kh_needThing_ok kh_needThing_y rfl l D tc ad kd N st [(0, x.toInt)] S hK ⟨rfl, fun i z hz => ?_⟩ (fun _ q => by cases q) (fun _ q => by cases q) hgi
  · have e0 : [(0, x.toInt)].map (av_V ad st) = [Value.int x] := by
      show [Value.int (Int32.ofInt x.toInt)] = _
      rw [Int32.ofInt_toInt]
    rw [e0] at h
    refine fw_Met_mono h (fun o S' hp => ?_)
    obtain ⟨q, hq, h1, h2, -, -, -, -, h3⟩ := hp
    refine ⟨?_, fr_nil h3⟩
    rcases List.mem_cons.mp hq with rfl | hq
    · have := en_nv (i := 0) h2 rfl
      have t : 1 ≤ x.toInt ∧ x.toInt ≤ 1 := this.2
      rcases hx with g | g
      · rw [g] at t
        exact absurd t.1 (by decide)
      · exact Or.inl ⟨g, h1⟩
    · rcases List.mem_cons.mp hq with rfl | hq
      · have := en_nv (i := 0) h2 rfl
        have t : 0 ≤ x.toInt ∧ x.toInt ≤ 0 := this.2
        rcases hx with g | g
        · exact Or.inr ⟨g, h1⟩
        · rw [g] at t
          exact absurd t.2 (by decide)
      · cases hq
  · match i, hz with
    | 0, hz =>
      cases hz
      exact ⟨_, rfl, ⟨rfl, (av_top_in x).2.1, hr.1, hr.2, av_one _⟩, fun _ _ q => by cases q⟩
    | i + 1, hz => cases hz
theorem fw_needState (hK : kd_okl l kd N) (hgi : gi_in S) {x : Int32} (hx : x = 0 ∨ x = 1) : fw_Met l ⟨"UtilityWorks", "needState", "(Z)V"⟩ prog_1_method_117_code 1 none 6 81 1 D tc ad kd N st [.int x] S (fun o S' => ((x = 1 ∧ o = .inl none) ∨ (x = 0 ∧ o = .inr (ex_nm 1))) ∧ S' = S) := by
  have hr : 0 ≤ x.toInt ∧ x.toInt ≤ 1 := by rcases hx with g | g <;> rw [g] <;> decide
  have h := kh_needState_ok kh_needState_y rfl l D tc ad kd N st [(0, x.toInt)] S hK ⟨rfl, fun i z hz => ?_⟩ (fun _ q => by cases q) (fun _ q => by cases q) hgi
  · have e0 : [(0, x.toInt)].map (av_V ad st) = [Value.int x] := by
      show [Value.int (Int32.ofInt x.toInt)] = _
      rw [Int32.ofInt_toInt]
    rw [e0] at h
    refine fw_Met_mono h (fun o S' hp => ?_)
    obtain ⟨q, hq, h1, h2, -, -, -, -, h3⟩ := hp
    refine ⟨?_, fr_nil h3⟩
    rcases List.mem_cons.mp hq with rfl | hq
    · have := en_nv (i := 0) h2 rfl
      have t : 1 ≤ x.toInt ∧ x.toInt ≤ 1 := this.2
      rcases hx with g | g
      · rw [g] at t
        exact absurd t.1 (by decide)
      · exact Or.inl ⟨g, h1⟩
    · rcases List.mem_cons.mp hq with rfl | hq
      · have := en_nv (i := 0) h2 rfl
        have t : 0 ≤ x.toInt ∧ x.toInt ≤ 0 := this.2
        rcases hx with g | g
        · exact Or.inr ⟨g, h1⟩
        · rw [g] at t
          exact absurd t.2 (by decide)
      · cases hq
  · match i, hz with
    | 0, hz =>
      cases hz
      exact ⟨_, rfl, ⟨rfl, (av_top_in x).2.1, hr.1, hr.2, av_one _⟩, fun _ _ q => by cases q⟩
    | i + 1, hz => cases hz
theorem im_town (hK : kd_okl l kd N) (hgi : gi_in S) : Im kd N S.2.2 0 := by
  have hN : 864 ≤ N := hK.1.1
  refine ⟨by omega, fun k hk => ?_, fun q hq h1 j h2 h3 => ?_⟩
  · rw [Nat.zero_add]
    exact hK.1.2 k (by show k < 864; omega)
  · rw [Nat.zero_add, Nat.zero_add]
    exact hgi.2 q hq j h2 h3
/-- what an image must be, that it may be copied -/
def Ib (kd : Nat → Nat × Nat) (N : Nat) (S : fw_S) (d : Nat) : Prop := Im kd N S.2.2 d ∧ (∀ i, i < 10 → S.1 (d + 560) i = 0 ∨ S.1 (d + 560) i = 1) ∧ (S.1 (d + 794) 3 = 0 ∨ S.1 (d + 794) 3 = 1) ∧ (S.1 (d + 794) 5 = 0 ∨ S.1 (d + 794) 5 = 1)
def brP (i : Int32) (S : fw_S) (o : fw_O) (S' : fw_S) : Prop :=
  (¬ (0 ≤ i.toInt ∧ i.toInt ≤ 1) ∧ o = .inr (ex_nm 2) ∧ S' = S) ∨ ((0 ≤ i.toInt ∧ i.toInt ≤ 1) ∧ S.2.2 804 i.toNatClampNeg = none ∧ o = .inr (ex_nm 1) ∧ S' = S) ∨
  (∃ d, (0 ≤ i.toInt ∧ i.toInt ≤ 1) ∧ S.2.2 804 i.toNatClampNeg = some (d + 1) ∧ o = .inl (some (.int (S'.1 1 0))) ∧ S' = cpS cq_Town d 0 S)
theorem fw_bring (hK : kd_okl l kd N) (hgi : gi_in S) {i : Int32} (himg : ∀ v, S.2.2 804 i.toNatClampNeg = some v → ∃ d, v = d + 1 ∧ 803 ≤ d ∧ Ib kd N S d) :
    fw_Met l ⟨"UtilityWorks", "bring", "(I)I"⟩ prog_1_method_10_code 3 (some .int) 7 260 2 D tc ad kd N st [.ref (ad 0), .int i] S (brP i S) :=
  fw_ofW (by decide +kernel) (Nat.le_of_ble_eq_true rfl) (fun sz p e s m args below meth c C0 hSt hret hex hname => by
    have l0 : ((0 : Nat), Value.ref (ad 0)) ∈ lv_args 0 [.ref (ad 0), .int i] := List.mem_cons_self
    have l1 : ((1 : Nat), Value.int i) ∈ lv_args 0 [.ref (ad 0), .int i] := List.mem_cons_of_mem _ List.mem_cons_self
    refine fw_iload_n (i := 1) C0 l1 (by decide +kernel) ?_
    refine fw_iconst (n0 := 0) C0 (by decide +kernel) ?_
    refine fw_iconst (n0 := 1) C0 (by decide +kernel) ?_
    refine fw_cG (S := S) (rest := []) C0 hSt (oc := 11) (idx := 31) (q := (31, 0, 100, 25186)) (y := (⟨"UtilityWorks", "isWithin", "(III)Z"⟩, prog_1_method_118_code, 3, some .boolean, 11, 0, 3, 25188, 25187, 0, 21001)) (av := [.int i, .int (Int32.ofInt 0), .int (Int32.ofInt 1)]) (fr := 1) (lo := 60) (mc := 0) rfl rfl rfl rfl (fw_isWithin (S := S)) rfl ⟨by decide, by decide, by decide, by decide, by decide⟩ rfl (by decide +kernel) (fun r S1 hp => ?_) (fun E S1 hp => by cases hp.1)
    obtain ⟨h1, h2⟩ := hp
    cases h1
    subst h2
    by_cases hi : 0 ≤ i.toInt ∧ i.toInt ≤ 1
    rotate_left
    · have e0 : (if (Int32.ofInt 0).toInt ≤ i.toInt ∧ i.toInt ≤ (Int32.ofInt 1).toInt then (1 : Int32) else 0) = 0 := if_neg hi
      rw [e0]
      refine fw_cG (S := S1) (rest := []) C0 hSt (oc := 11) (idx := 27) (q := (27, 0, 99, 25120)) (y := (⟨"UtilityWorks", "needThing", "(Z)V"⟩, prog_1_method_115_code, 1, none, 11, 0, 1, 25122, 25121, 0, 21001)) (av := [.int 0]) (fr := 6) (lo := 81) (mc := 1) rfl rfl rfl rfl (fw_needThing (S := S1) hK hgi (Or.inl rfl)) rfl ⟨by decide, by decide, by decide, by decide, by decide⟩ rfl (by decide +kernel) (fun r S2 hp => ?_) (fun E S2 hp => ?_)
      · rcases hp.1 with g | g
        · exact absurd g.1 (by decide)
        · cases g.2
      · rcases hp.1 with g | g
        · cases g.2
        · cases g.2
          rw [hp.2]
          exact fw_out C0 hSt hex (by decide) (Or.inl ⟨hi, rfl, rfl⟩)
    have e0 : (if (Int32.ofInt 0).toInt ≤ i.toInt ∧ i.toInt ≤ (Int32.ofInt 1).toInt then (1 : Int32) else 0) = 1 := if_pos hi
    rw [e0]
    refine fw_cG (S := S1) (rest := []) C0 hSt (oc := 11) (idx := 27) (q := (27, 0, 99, 25120)) (y := (⟨"UtilityWorks", "needThing", "(Z)V"⟩, prog_1_method_115_code, 1, none, 11, 0, 1, 25122, 25121, 0, 21001)) (av := [.int 1]) (fr := 6) (lo := 81) (mc := 1) rfl rfl rfl rfl (fw_needThing (S := S1) hK hgi (Or.inr rfl)) rfl ⟨by decide, by decide, by decide, by decide, by decide⟩ rfl (by decide +kernel) (fun r S2 hp => ?_) (fun E S2 hp => ?_)
    rotate_left
    · rcases hp.1 with g | g
      · cases g.2
      · exact absurd g.1 (by decide)
    have hr : r = none := by
      rcases hp.1 with g | g
      · cases g.2
        rfl
      · exact absurd g.1 (by decide)
    have h2 := hp.2
    subst hr
    subst h2
    have hin : vp_in i 2 := by
      rintro (q | q)
      · have := Int32.lt_iff_toInt_lt.mp q
        rw [show (0 : Int32).toInt = 0 from rfl] at this
        omega
      · have : i.toNatClampNeg = i.toInt.toNat := rfl
        omega
    refine fw_aload_n (i := 0) C0 l0 (by decide +kernel) ?_
    refine fw_getr C0 (oc := 11) (idx := 16) (q := (16, 11, 1, 23170)) (k := 0) (v := 804) rfl rfl (Nat.lt_of_lt_of_le (by decide) hK.1.1) ((hK.1.2 0 (by decide)).trans (by decide +kernel)) rfl (hgi.2 (0, 1, 1, 804) (by decide +kernel) 1 (by decide) (by decide)) (by decide +kernel) ?_
    refine fw_iload_n (i := 1) C0 l1 (by decide +kernel) ?_
    refine fw_aaload C0 (z := 5) (by decide) (Nat.lt_of_lt_of_le (by decide) hK.1.1) ((hK.1.2 804 (by decide)).trans (by decide +kernel)) hin (by decide +kernel) ?_
    cases hv : S2.2.2 804 i.toNatClampNeg with
    | none =>
      refine fw_astoreN (i := 2) (k0 := 2) C0 rfl (by decide) (by decide +kernel) ?_
      refine fw_aloadN (i := 2) C0 List.mem_cons_self (by decide +kernel) ?_
      refine fw_ifnullN (off := 7) (tgt := 24) C0 (by decide) (by decide +kernel) ?_
      refine fw_iconst (n0 := 0) C0 (by decide +kernel) ?_
      refine fw_cG (S := S2) (rest := []) C0 hSt (oc := 11) (idx := 52) (q := (52, 0, 104, 25220)) (y := (⟨"UtilityWorks", "needState", "(Z)V"⟩, prog_1_method_117_code, 1, none, 11, 0, 1, 25222, 25221, 0, 21001)) (av := [.int 0]) (fr := 6) (lo := 81) (mc := 1) rfl rfl rfl rfl (fw_needState (S := S2) hK hgi (Or.inl rfl)) rfl ⟨by decide, by decide, by decide, by decide, by decide⟩ rfl (by decide +kernel) (fun r S3 hp => ?_) (fun E S3 hp => ?_)
      · rcases hp.1 with g | g
        · exact absurd g.1 (by decide)
        · cases g.2
      · rcases hp.1 with g | g
        · cases g.2
        · cases g.2
          rw [hp.2]
          exact fw_out C0 hSt hex (by decide) (Or.inr (Or.inl ⟨hi, hv, rfl, rfl⟩))
    | some v =>
      obtain ⟨d, rfl, hd, hI, hb1, hb2, hb3⟩ := himg v hv
      show fw_W _ _ _ _ _ _ _ _ _ _ _ _ _ _ _ _ _ _ _ _ (.ref (ad (d + 1)) :: []) _ _
      refine fw_astore_n (i := 2) (k0 := 2) C0 rfl (by decide) (by decide +kernel) ?_
      refine fw_aload_n (i := 2) C0 List.mem_cons_self (by decide +kernel) ?_
      refine fw_ifnull C0 (off := 7) (by decide +kernel) ?_
      refine fw_iconst (n0 := 1) C0 (by decide +kernel) ?_
      refine fw_goto (off := 4) (tgt := 25) C0 (by decide) (by decide +kernel) ?_
      refine fw_cG (S := S2) (rest := []) C0 hSt (oc := 11) (idx := 52) (q := (52, 0, 104, 25220)) (y := (⟨"UtilityWorks", "needState", "(Z)V"⟩, prog_1_method_117_code, 1, none, 11, 0, 1, 25222, 25221, 0, 21001)) (av := [.int 1]) (fr := 6) (lo := 81) (mc := 1) rfl rfl rfl rfl (fw_needState (S := S2) hK hgi (Or.inr rfl)) rfl ⟨by decide, by decide, by decide, by decide, by decide⟩ rfl (by decide +kernel) (fun r S3 hp => ?_) (fun E S3 hp => ?_)
      rotate_left
      · rcases hp.1 with g | g
        · cases g.2
        · exact absurd g.1 (by decide)
      have hr : r = none := by
        rcases hp.1 with g | g
        · cases g.2
          rfl
        · exact absurd g.1 (by decide)
      have h2 := hp.2
      subst hr
      subst h2
      have m0 : ((0 : Nat), Value.ref (ad 0)) ∈ fw_st1 (lv_args 0 [.ref (ad 0), .int i]) 2 (.ref (ad (d + 1))) := mem_st1 l0 rfl
      refine fw_aload_n (i := 0) C0 m0 (by decide +kernel) ?_
      refine fw_getr C0 (oc := 11) (idx := 12) (q := (12, 11, 0, 23169)) (k := 0) (v := 1) rfl rfl (Nat.lt_of_lt_of_le (by decide) hK.1.1) ((hK.1.2 0 (by decide)).trans (by decide +kernel)) rfl (hgi.2 (0, 0, 0, 1) (by decide +kernel) 0 (by decide) (by decide)) (by decide +kernel) ?_
      refine fw_aload_n (i := 2) C0 List.mem_cons_self (by decide +kernel) ?_
      refine fw_cV C0 hSt (oc := 11) (idx := 161) (q := (161, 1, 186, 27159)) (y := (⟨"UtilityWorks$Town", "copyFrom", "(LUtilityWorks$Town;)V"⟩, prog_10_method_2_code, 2, none, 8, 1, 1, 27162, 27160, 27161, 21002)) (bb := 1) (av := [.ref (ad (d + 1))]) (fr := 5) (lo := 166) rfl rfl (by decide) rfl (Town_cf (S := S3) (a := d) (b := 0) (Or.inr (by omega)) hI (im_town hK hgi) hb1 hb2 hb3) (Nat.lt_of_lt_of_le (by decide) hK.1.1) ((hK.1.2 1 (by decide)).trans (by decide +kernel)) rfl ⟨by decide, by decide, by decide, by decide, by decide⟩ rfl (by decide +kernel) ?_
      refine fw_aload_n (i := 0) C0 m0 (by decide +kernel) ?_
      refine fw_getr C0 (oc := 11) (idx := 12) (q := (12, 11, 0, 23169)) (k := 0) (v := 1) rfl rfl (Nat.lt_of_lt_of_le (by decide) hK.1.1) ((hK.1.2 0 (by decide)).trans (by decide +kernel)) rfl (hgi.2 (0, 0, 0, 1) (by decide +kernel) 0 (by decide) (by decide)) (by decide +kernel) ?_
      refine fw_geti C0 (oc := 11) (idx := 103) (q := (103, 8, 0, 23068)) (k := 1) rfl rfl (Nat.lt_of_lt_of_le (by decide) hK.1.1) ((hK.1.2 1 (by decide)).trans (by decide +kernel)) rfl (by decide +kernel) ?_
      exact fw_iret C0 hSt hret (by decide) (Or.inr (Or.inr ⟨d, hi, hv, rfl, rfl⟩)) (by decide +kernel))
def kpP (i : Int32) (S : fw_S) (o : fw_O) (S' : fw_S) : Prop :=
  (¬ (0 ≤ i.toInt ∧ i.toInt ≤ 1) ∧ o = .inr (ex_nm 2) ∧ S' = S) ∨
  (∃ d, (0 ≤ i.toInt ∧ i.toInt ≤ 1) ∧ S.2.2 804 i.toNatClampNeg = some (d + 1) ∧ o = .inl (some (.int (S'.1 1 0))) ∧ S' = cpS cq_Town 0 d S)
/-- keep, where the image is there already -/
theorem fw_keep1 (hK : kd_okl l kd N) (hgi : gi_in S) {i : Int32} (himg : (0 ≤ i.toInt ∧ i.toInt ≤ 1) → ∃ d, S.2.2 804 i.toNatClampNeg = some (d + 1) ∧ 803 ≤ d ∧ Im kd N S.2.2 d) (hb1 : ∀ i, i < 10 → S.1 (0 + 560) i = 0 ∨ S.1 (0 + 560) i = 1) (hb2 : S.1 (0 + 794) 3 = 0 ∨ S.1 (0 + 794) 3 = 1) (hb3 : S.1 (0 + 794) 5 = 0 ∨ S.1 (0 + 794) 5 = 1) :
    fw_Met l ⟨"UtilityWorks", "keep", "(I)I"⟩ prog_1_method_9_code 3 (some .int) 7 260 2 D tc ad kd N st [.ref (ad 0), .int i] S (kpP i S) :=
  fw_ofW (by decide +kernel) (Nat.le_of_ble_eq_true rfl) (fun sz p e s m args below meth c C0 hSt hret hex hname => by
    have l0 : ((0 : Nat), Value.ref (ad 0)) ∈ lv_args 0 [.ref (ad 0), .int i] := List.mem_cons_self
    have l1 : ((1 : Nat), Value.int i) ∈ lv_args 0 [.ref (ad 0), .int i] := List.mem_cons_of_mem _ List.mem_cons_self
    refine fw_iload_n (i := 1) C0 l1 (by decide +kernel) ?_
    refine fw_iconst (n0 := 0) C0 (by decide +kernel) ?_
    refine fw_iconst (n0 := 1) C0 (by decide +kernel) ?_
    refine fw_cG (S := S) (rest := []) C0 hSt (oc := 11) (idx := 31) (q := (31, 0, 100, 25186)) (y := (⟨"UtilityWorks", "isWithin", "(III)Z"⟩, prog_1_method_118_code, 3, some .boolean, 11, 0, 3, 25188, 25187, 0, 21001)) (av := [.int i, .int (Int32.ofInt 0), .int (Int32.ofInt 1)]) (fr := 1) (lo := 60) (mc := 0) rfl rfl rfl rfl (fw_isWithin (S := S)) rfl ⟨by decide, by decide, by decide, by decide, by decide⟩ rfl (by decide +kernel) (fun r S1 hp => ?_) (fun E S1 hp => by cases hp.1)
    obtain ⟨h1, h2⟩ := hp
    cases h1
    subst h2
    by_cases hi : 0 ≤ i.toInt ∧ i.toInt ≤ 1
    rotate_left
    · have e0 : (if (Int32.ofInt 0).toInt ≤ i.toInt ∧ i.toInt ≤ (Int32.ofInt 1).toInt then (1 : Int32) else 0) = 0 := if_neg hi
      rw [e0]
      refine fw_cG (S := S1) (rest := []) C0 hSt (oc := 11) (idx := 27) (q := (27, 0, 99, 25120)) (y := (⟨"UtilityWorks", "needThing", "(Z)V"⟩, prog_1_method_115_code, 1, none, 11, 0, 1, 25122, 25121, 0, 21001)) (av := [.int 0]) (fr := 6) (lo := 81) (mc := 1) rfl rfl rfl rfl (fw_needThing (S := S1) hK hgi (Or.inl rfl)) rfl ⟨by decide, by decide, by decide, by decide, by decide⟩ rfl (by decide +kernel) (fun r S2 hp => ?_) (fun E S2 hp => ?_)
      · rcases hp.1 with g | g
        · exact absurd g.1 (by decide)
        · cases g.2
      · rcases hp.1 with g | g
        · cases g.2
        · cases g.2
          rw [hp.2]
          exact fw_out C0 hSt hex (by decide) (Or.inl ⟨hi, rfl, rfl⟩)
    have e0 : (if (Int32.ofInt 0).toInt ≤ i.toInt ∧ i.toInt ≤ (Int32.ofInt 1).toInt then (1 : Int32) else 0) = 1 := if_pos hi
    rw [e0]
    refine fw_cG (S := S1) (rest := []) C0 hSt (oc := 11) (idx := 27) (q := (27, 0, 99, 25120)) (y := (⟨"UtilityWorks", "needThing", "(Z)V"⟩, prog_1_method_115_code, 1, none, 11, 0, 1, 25122, 25121, 0, 21001)) (av := [.int 1]) (fr := 6) (lo := 81) (mc := 1) rfl rfl rfl rfl (fw_needThing (S := S1) hK hgi (Or.inr rfl)) rfl ⟨by decide, by decide, by decide, by decide, by decide⟩ rfl (by decide +kernel) (fun r S2 hp => ?_) (fun E S2 hp => ?_)
    rotate_left
    · rcases hp.1 with g | g
      · cases g.2
      · exact absurd g.1 (by decide)
    have hr : r = none := by
      rcases hp.1 with g | g
      · cases g.2
        rfl
      · exact absurd g.1 (by decide)
    have h2 := hp.2
    subst hr
    subst h2
    have hin : vp_in i 2 := by
      rintro (q | q)
      · have := Int32.lt_iff_toInt_lt.mp q
        rw [show (0 : Int32).toInt = 0 from rfl] at this
        omega
      · have : i.toNatClampNeg = i.toInt.toNat := rfl
        omega
    refine fw_aload_n (i := 0) C0 l0 (by decide +kernel) ?_
    refine fw_getr C0 (oc := 11) (idx := 16) (q := (16, 11, 1, 23170)) (k := 0) (v := 804) rfl rfl (Nat.lt_of_lt_of_le (by decide) hK.1.1) ((hK.1.2 0 (by decide)).trans (by decide +kernel)) rfl (hgi.2 (0, 1, 1, 804) (by decide +kernel) 1 (by decide) (by decide)) (by decide +kernel) ?_
    refine fw_iload_n (i := 1) C0 l1 (by decide +kernel) ?_
    refine fw_aaload C0 (z := 5) (by decide) (Nat.lt_of_lt_of_le (by decide) hK.1.1) ((hK.1.2 804 (by decide)).trans (by decide +kernel)) hin (by decide +kernel) ?_
    obtain ⟨d, hv, hd, hI⟩ := himg hi
    rw [hv]
    show fw_W _ _ _ _ _ _ _ _ _ _ _ _ _ _ _ _ _ _ _ _ (.ref (ad (d + 1)) :: []) _ _
    refine fw_astore_n (i := 2) (k0 := 2) C0 rfl (by decide) (by decide +kernel) ?_
    refine fw_aload_n (i := 2) C0 List.mem_cons_self (by decide +kernel) ?_
    refine fw_ifnonnull C0 (off := 18) (tgt := 35) (by decide) (by decide +kernel) ?_
    have m0 : ((0 : Nat), Value.ref (ad 0)) ∈ fw_st1 (lv_args 0 [.ref (ad 0), .int i]) 2 (.ref (ad (d + 1))) := mem_st1 l0 rfl
    refine fw_aload_n (i := 2) C0 List.mem_cons_self (by decide +kernel) ?_
    refine fw_aload_n (i := 0) C0 m0 (by decide +kernel) ?_
    refine fw_getr C0 (oc := 11) (idx := 12) (q := (12, 11, 0, 23169)) (k := 0) (v := 1) rfl rfl (Nat.lt_of_lt_of_le (by decide) hK.1.1) ((hK.1.2 0 (by decide)).trans (by decide +kernel)) rfl (hgi.2 (0, 0, 0, 1) (by decide +kernel) 0 (by decide) (by decide)) (by decide +kernel) ?_
    refine fw_cV C0 hSt (oc := 11) (idx := 161) (q := (161, 1, 186, 27159)) (y := (⟨"UtilityWorks$Town", "copyFrom", "(LUtilityWorks$Town;)V"⟩, prog_10_method_2_code, 2, none, 8, 1, 1, 27162, 27160, 27161, 21002)) (bb := d + 1) (av := [.ref (ad 1)]) (fr := 5) (lo := 166) rfl rfl (by decide) rfl (Town_cf (S := S2) (a := 0) (b := d) (Or.inl (by omega)) (im_town hK hgi) hI hb1 hb2 hb3) (im_N hI (by decide)) (im_kd hI (k := 1) (by decide) (by decide +kernel)) rfl ⟨by decide, by decide, by decide, by decide, by decide⟩ rfl (by decide +kernel) ?_
    refine fw_aload_n (i := 0) C0 m0 (by decide +kernel) ?_
    refine fw_getr C0 (oc := 11) (idx := 12) (q := (12, 11, 0, 23169)) (k := 0) (v := 1) rfl rfl (Nat.lt_of_lt_of_le (by decide) hK.1.1) ((hK.1.2 0 (by decide)).trans (by decide +kernel)) rfl (hgi.2 (0, 0, 0, 1) (by decide +kernel) 0 (by decide) (by decide)) (by decide +kernel) ?_
    refine fw_geti C0 (oc := 11) (idx := 103) (q := (103, 8, 0, 23068)) (k := 1) rfl rfl (Nat.lt_of_lt_of_le (by decide) hK.1.1) ((hK.1.2 1 (by decide)).trans (by decide +kernel)) rfl (by decide +kernel) ?_
    exact fw_iret C0 hSt hret (by decide) (Or.inr ⟨d, hi, hv, rfl, rfl⟩) (by decide +kernel))
end BR
