/-! ===== CONSTRUCTORS: straight stretches ===== -/
theorem gw_ok_rl {L : List (Nat × Nat × Nat × Nat)} {d k j v N : Nat} {S : fw_S} (h : gw_ok (rl_S L d S) N) (hk : d + k < N) (hv : d + v < N) : gw_ok (rl_S ((k, j, j, v) :: L) d S) N := by
  rw [← rl_r]
  exact gw_ok_r h hk hv
theorem gw_ok_rlm {L : List (Nat × Nat × Nat × Nat)} {d k n : Nat} {S : fw_S} (h : gw_ok (rl_S L d S) (d + k)) (hn : 0 < n) : gw_ok (rl_S ((k, 0, n - 1, k + 1) :: L) d S) (d + k + 1 + n) := by
  rw [← rl_rows hn]
  exact gw_ok_rows h
section GU
variable {p : Program} {l : Launch} {e : Env} {R : Room} {s : State} {m : MethodId} {args : Array Value} {below : List Frame} {meth : Method} {c : Code} {Q : State → Prop}
variable {D : va_G} {tc : Nat → ClassId} {ad : Nat → Nat} {kd : Nat → Nat × Nat} {N nL : Nat} {A : Nat → Prop} {own : String} {cc : ByteArray} {st : Nat → Nat}
variable {pc n : Nat} {lv : List (Nat × Value)} {rest : List Value} {S : fw_S}
theorem gw_up {q : Nat} (kk : ∀ ad1, (∀ k, k < N → ad1 k = ad k) → fw_W p l e R s m args below meth c Q D tc ad1 kd (N + 1) nL A pc lv (.ref (ad1 N) :: rest) S n) : fw_W p l e R s m args below meth c Q D tc (gad ad N q) kd (N + 1) nL A pc lv (.ref q :: rest) S n := by
  have h := kk (gad ad N q) (fun k hk => gad_lt hk)
  rw [gad_at] at h
  exact h
theorem gw_upm {q k : Nat} {r : Nat → Nat} (kk : ∀ ad1, (∀ k, k < N → ad1 k = ad k) → fw_W p l e R s m args below meth c Q D tc ad1 kd (N + 1 + k) nL A pc lv (.ref (ad1 N) :: rest) S n) : fw_W p l e R s m args below meth c Q D tc (gadm ad N q r) kd (N + 1 + k) nL A pc lv (.ref q :: rest) S n := by
  have h := kk (gadm ad N q r) (fun k hk => gadm_lt hk)
  rw [gadm_at] at h
  exact h
theorem rl_i {L : List (Nat × Nat × Nat × Nat)} {d k j : Nat} {x : Int32} : fw_i (rl_S L d S) k j x = rl_S L d (fw_i S k j x) := rfl
/-- a number into a field that isn't final -/
theorem gw_puti {oc idx k : Nat} {q : lk_F} {x : Int32} (C0 : fw_C p s m args meth c D tc A own cc nL) (ho : own = lk_own oc) (hq : lkf_at oc idx = some q) (hk : k < N) (hkd : kd k = (q.2.1 + 6, cl_n q.2.1)) (hfin : q_fin oc idx = true) (hty : fw_ty q.2.1 q.2.2.1 = .int) (hdg : decode cc pc = .ok (.putfield idx, 3))
    (kk : fw_W p l e R s m args below meth c Q D tc ad kd N nL A (pc + 3) lv rest (fw_i S k q.2.2.1 x) n) : fw_W p l e R s m args below meth c Q D tc ad kd N nL A pc lv (.int x :: .ref (ad k) :: rest) S n :=
  fw_putx C0 ho hq hk hkd hfin (by rw [hty]; rfl) (by rw [hty]; rfl) (by rw [hty]; show Value.int _ = _; rw [fw_i_get]) (fun i hi => fw_v_i hi) (fun y hy => fw_e_off (fw_i_off hy) rfl rfl) hdg kk
end GU
section GK
variable {l : Launch} {D : va_G} {tc : Nat → ClassId} {ad : Nat → Nat} {kd : Nat → Nat × Nat} {st : Nat → Nat} {d : Nat} {S0 : fw_S} {L0 : List (Nat × Nat × Nat × Nat)}
theorem ctor_Ways (hkd : ∀ k, 1 ≤ k ∧ k ≤ 803 → kd (d + k) = wd_kd k) (hok : gw_ok (rl_S L0 d S0) (d + 3)) : gw_Met l ⟨"UtilityWorks$Ways", "<init>", "()V"⟩ prog_12_method_1_code 1 2 60 15 D tc ad kd (d + 3) (d + 8) st [.ref (ad (d + 2))] (rl_S L0 d S0) (fun S' => S' = rl_S ((2, 5, 5, 7) :: (2, 3, 3, 6) :: (2, 2, 2, 5) :: (2, 1, 1, 4) :: (2, 0, 0, 3) :: L0) d S0 ∧ gw_ok S' (d + 8)) :=
  gw_ofW (by decide +kernel) (Nat.le_of_ble_eq_true rfl) (fun sz p e s m args below meth c C0 hSt hAO hret hnm => by
    have l0 : ((0 : Nat), Value.ref (ad (d + 2))) ∈ lv_args 0 [.ref (ad (d + 2))] := List.mem_cons_self
    have ok0 : gw_ok (rl_S L0 d S0) (d + 3) := hok
    refine fw_aload_n (i := 0) C0 l0 (by decide +kernel) ?_
    refine gw_obj (idx := 3) C0 (lk_chk_in (pl := 21043) (by decide +kernel)) (lk_chk_in (pl := 21030) (by decide +kernel)) (lk_chk_in (pl := 21031) (by decide +kernel)) (by decide) (by decide) (by decide) (by decide +kernel) ?_
    refine fw_aload_n (i := 0) C0 l0 (by decide +kernel) ?_
    refine fw_bipush (n0 := 17) C0 (by decide +kernel) ?_
    refine gw_newz (N := d + 3) (K := 17) C0 ok0.1 (ok0.2 _ (Nat.le_refl _)) ((hkd 3 (by decide)).trans (by decide +kernel)) (by decide) (by decide) (by decide) (lk_chk_in (pl := 21079) (by decide +kernel)) (by decide) (by decide +kernel) (fun q => gw_up (fun ad1 h1 => ?_))
    have ok1a : gw_ok (rl_S (L0) d S0) (d + 4) := gw_ok_1 ok0
    rw [← h1 (d + 2) (by omega)]
    have l1 : ((0 : Nat), Value.ref (ad1 (d + 2))) ∈ lv_args 0 [.ref (ad1 (d + 2))] := List.mem_cons_self
    refine gw_putr (oc := 10) (idx := 9) (k := d + 2) (v := d + 3) (q := (9, 10, 0, 21044)) C0 hnm rfl rfl (by omega) ((hkd 2 (by decide)).trans (by decide +kernel)) rfl (by decide +kernel) (by decide +kernel) ?_
    rw [rl_r]
    have ok1b : gw_ok (rl_S ((2, 0, 0, 3) :: L0) d S0) (d + 4) := gw_ok_rl ok1a (by omega) (by omega)
    refine fw_aload_n (i := 0) C0 l1 (by decide +kernel) ?_
    refine fw_bipush (n0 := 12) C0 (by decide +kernel) ?_
    refine gw_newa (N := d + 4) (K := 12) C0 ok1b.1 (ok1b.2 _ (Nat.le_refl _)) ((hkd 4 (by decide)).trans (by decide +kernel)) (by decide) (by decide) (by decide) (lk_chk_in (pl := 21080) (by decide +kernel)) (by decide) (by decide +kernel) (fun q => gw_up (fun ad2 h2 => ?_))
    have ok2a : gw_ok (rl_S ((2, 0, 0, 3) :: L0) d S0) (d + 5) := gw_ok_1 ok1b
    rw [← h2 (d + 2) (by omega)]
    have l2 : ((0 : Nat), Value.ref (ad2 (d + 2))) ∈ lv_args 0 [.ref (ad2 (d + 2))] := List.mem_cons_self
    refine gw_putr (oc := 10) (idx := 15) (k := d + 2) (v := d + 4) (q := (15, 10, 1, 21048)) C0 hnm rfl rfl (by omega) ((hkd 2 (by decide)).trans (by decide +kernel)) rfl (by decide +kernel) (by decide +kernel) ?_
    rw [rl_r]
    have ok2b : gw_ok (rl_S ((2, 1, 1, 4) :: (2, 0, 0, 3) :: L0) d S0) (d + 5) := gw_ok_rl ok2a (by omega) (by omega)
    refine fw_aload_n (i := 0) C0 l2 (by decide +kernel) ?_
    refine fw_bipush (n0 := 12) C0 (by decide +kernel) ?_
    refine gw_newa (N := d + 5) (K := 12) C0 ok2b.1 (ok2b.2 _ (Nat.le_refl _)) ((hkd 5 (by decide)).trans (by decide +kernel)) (by decide) (by decide) (by decide) (lk_chk_in (pl := 21080) (by decide +kernel)) (by decide) (by decide +kernel) (fun q => gw_up (fun ad3 h3 => ?_))
    have ok3a : gw_ok (rl_S ((2, 1, 1, 4) :: (2, 0, 0, 3) :: L0) d S0) (d + 6) := gw_ok_1 ok2b
    rw [← h3 (d + 2) (by omega)]
    have l3 : ((0 : Nat), Value.ref (ad3 (d + 2))) ∈ lv_args 0 [.ref (ad3 (d + 2))] := List.mem_cons_self
    refine gw_putr (oc := 10) (idx := 19) (k := d + 2) (v := d + 5) (q := (19, 10, 2, 21055)) C0 hnm rfl rfl (by omega) ((hkd 2 (by decide)).trans (by decide +kernel)) rfl (by decide +kernel) (by decide +kernel) ?_
    rw [rl_r]
    have ok3b : gw_ok (rl_S ((2, 2, 2, 5) :: (2, 1, 1, 4) :: (2, 0, 0, 3) :: L0) d S0) (d + 6) := gw_ok_rl ok3a (by omega) (by omega)
    refine fw_aload_n (i := 0) C0 l3 (by decide +kernel) ?_
    refine fw_bipush (n0 := 12) C0 (by decide +kernel) ?_
    refine gw_newa (N := d + 6) (K := 12) C0 ok3b.1 (ok3b.2 _ (Nat.le_refl _)) ((hkd 6 (by decide)).trans (by decide +kernel)) (by decide) (by decide) (by decide) (lk_chk_in (pl := 21080) (by decide +kernel)) (by decide) (by decide +kernel) (fun q => gw_up (fun ad4 h4 => ?_))
    have ok4a : gw_ok (rl_S ((2, 2, 2, 5) :: (2, 1, 1, 4) :: (2, 0, 0, 3) :: L0) d S0) (d + 7) := gw_ok_1 ok3b
    rw [← h4 (d + 2) (by omega)]
    have l4 : ((0 : Nat), Value.ref (ad4 (d + 2))) ∈ lv_args 0 [.ref (ad4 (d + 2))] := List.mem_cons_self
    refine gw_putr (oc := 10) (idx := 22) (k := d + 2) (v := d + 6) (q := (22, 10, 3, 21057)) C0 hnm rfl rfl (by omega) ((hkd 2 (by decide)).trans (by decide +kernel)) rfl (by decide +kernel) (by decide +kernel) ?_
    rw [rl_r]
    have ok4b : gw_ok (rl_S ((2, 3, 3, 6) :: (2, 2, 2, 5) :: (2, 1, 1, 4) :: (2, 0, 0, 3) :: L0) d S0) (d + 7) := gw_ok_rl ok4a (by omega) (by omega)
    refine fw_aload_n (i := 0) C0 l4 (by decide +kernel) ?_
    refine fw_bipush (n0 := 12) C0 (by decide +kernel) ?_
    refine gw_newa (N := d + 7) (K := 12) C0 ok4b.1 (ok4b.2 _ (Nat.le_refl _)) ((hkd 7 (by decide)).trans (by decide +kernel)) (by decide) (by decide) (by decide) (lk_chk_in (pl := 21080) (by decide +kernel)) (by decide) (by decide +kernel) (fun q => gw_up (fun ad5 h5 => ?_))
    have ok5a : gw_ok (rl_S ((2, 3, 3, 6) :: (2, 2, 2, 5) :: (2, 1, 1, 4) :: (2, 0, 0, 3) :: L0) d S0) (d + 8) := gw_ok_1 ok4b
    rw [← h5 (d + 2) (by omega)]
    have l5 : ((0 : Nat), Value.ref (ad5 (d + 2))) ∈ lv_args 0 [.ref (ad5 (d + 2))] := List.mem_cons_self
    refine gw_putr (oc := 10) (idx := 25) (k := d + 2) (v := d + 7) (q := (25, 10, 5, 21061)) C0 hnm rfl rfl (by omega) ((hkd 2 (by decide)).trans (by decide +kernel)) rfl (by decide +kernel) (by decide +kernel) ?_
    rw [rl_r]
    have ok5b : gw_ok (rl_S ((2, 5, 5, 7) :: (2, 3, 3, 6) :: (2, 2, 2, 5) :: (2, 1, 1, 4) :: (2, 0, 0, 3) :: L0) d S0) (d + 8) := gw_ok_rl ok5a (by omega) (by omega)
    refine gw_vret C0 hSt hret (by decide) (fun k hk => ?_) ⟨rfl, ok5b⟩ (by decide +kernel)
    rw [h5 k (by omega), h4 k (by omega), h3 k (by omega), h2 k (by omega), h1 k (by omega)])
end GK
section GL
variable {p : Program} {l : Launch} {e : Env} {R : Room} {s : State} {m : MethodId} {args : Array Value} {below : List Frame} {meth : Method} {c : Code} {Q : State → Prop}
variable {D : va_G} {tc : Nat → ClassId} {ad : Nat → Nat} {kd : Nat → Nat × Nat} {nL : Nat} {A : Nat → Prop} {n d : Nat} {S0 : fw_S} {L0 : List (Nat × Nat × Nat × Nat)}
theorem ctorA_Grid (C0 : fw_C p s m args meth c D tc A "UtilityWorks$Grid" prog_5_method_1_code nL) (hnm : meth.name = "<init>") (hAO : gw_AO s) (hkd : ∀ k, 1 ≤ k ∧ k ≤ 803 → kd (d + k) = wd_kd k) (hok : gw_ok (rl_S L0 d S0) (d + 9)) (hfr : 1 ≤ R.frames) (hlo : 60 ≤ R.locals) (hroom : n + 207 ≤ R.cells ∧ 6 * (n + 207) ≤ R.slots)
    (kk : ∀ ad1 : Nat → Nat, (∀ k, k < d + 9 → ad1 k = ad k) → gw_ok (rl_S ((8, 3, 3, 96) :: (8, 2, 2, 79) :: (79, 0, 15, 80) :: (8, 1, 1, 61) :: (61, 0, 16, 62) :: (8, 0, 0, 9) :: (9, 0, 50, 10) :: L0) d S0) (d + 97) → fw_W p l e R s m args below meth c Q D tc ad1 kd (d + 97) nL A 48 (lv_args 0 [.ref (ad1 (d + 8))]) [] (rl_S ((8, 3, 3, 96) :: (8, 2, 2, 79) :: (79, 0, 15, 80) :: (8, 1, 1, 61) :: (61, 0, 16, 62) :: (8, 0, 0, 9) :: (9, 0, 50, 10) :: L0) d S0) (n + (1 + 51 + (51 + 51 * 7) / 6 + 1) + (1 + 17 + (17 + 17 * 9) / 6 + 1) + (1 + 16 + (16 + 16 * 6) / 6 + 1) + (1 + 12 / 6))) :
    fw_W p l e R s m args below meth c Q D tc ad kd (d + 9) nL A 0 (lv_args 0 [.ref (ad (d + 8))]) [] (rl_S L0 d S0) n := by
  have l0 : ((0 : Nat), Value.ref (ad (d + 8))) ∈ lv_args 0 [.ref (ad (d + 8))] := List.mem_cons_self
  have ok0 : gw_ok (rl_S L0 d S0) (d + 9) := hok
  refine fw_aload_n (i := 0) C0 l0 (by decide +kernel) ?_
  refine gw_obj (idx := 3) C0 (lk_chk_in (pl := 21086) (by decide +kernel)) (lk_chk_in (pl := 21030) (by decide +kernel)) (lk_chk_in (pl := 21031) (by decide +kernel)) hfr (by omega) (by decide) (by decide +kernel) ?_
  refine fw_aload_n (i := 0) C0 l0 (by decide +kernel) ?_
  refine fw_bipush (n0 := 51) C0 (by decide +kernel) ?_
  refine fw_bipush (n0 := 7) C0 (by decide +kernel) ?_
  refine gw_mna (index := 9) (N := d + 9) (k := 51) (w := 7) C0 hAO.1 ok0.1 ok0.2 ((hkd 9 (by decide)).trans (by decide +kernel)) (fun i hi => (show kd (d + 9 + 1 + i) = _ by rw [show d + 9 + 1 + i = d + (9 + 1 + i) by omega]; exact (hkd (9 + 1 + i) (by omega)).trans (wd_kd_span (a := 10) (c := 60) (by decide +kernel) (by omega) (by omega)))) (by decide) (by decide) (by decide) (lk_chk_in (pl := 21087) (by decide +kernel)) (lk_chk_in (pl := 21080) (by decide +kernel)) (by omega) (by decide +kernel) (fun q r => gw_upm (fun ad1 h1 => ?_))
  rw [rl_rows (by decide)]
  have ok1a : gw_ok (rl_S ((9, 0, 50, 10) :: L0) d S0) (d + 61) := gw_ok_rlm (n := 51) ok0 (by decide)
  rw [← h1 (d + 8) (by omega)]
  have l1 : ((0 : Nat), Value.ref (ad1 (d + 8))) ∈ lv_args 0 [.ref (ad1 (d + 8))] := List.mem_cons_self
  refine gw_putr (oc := 3) (idx := 11) (k := d + 8) (v := d + 9) (q := (11, 3, 0, 21102)) C0 hnm rfl rfl (by omega) ((hkd 8 (by decide)).trans (by decide +kernel)) rfl (by decide +kernel) (by decide +kernel) ?_
  rw [rl_r]
  have ok1b : gw_ok (rl_S ((8, 0, 0, 9) :: (9, 0, 50, 10) :: L0) d S0) (d + 61) := gw_ok_rl ok1a (by omega) (by omega)
  refine fw_aload_n (i := 0) C0 l1 (by decide +kernel) ?_
  refine fw_bipush (n0 := 17) C0 (by decide +kernel) ?_
  refine fw_bipush (n0 := 9) C0 (by decide +kernel) ?_
  refine gw_mna (index := 9) (N := d + 61) (k := 17) (w := 9) C0 hAO.1 ok1b.1 ok1b.2 ((hkd 61 (by decide)).trans (by decide +kernel)) (fun i hi => (show kd (d + 61 + 1 + i) = _ by rw [show d + 61 + 1 + i = d + (61 + 1 + i) by omega]; exact (hkd (61 + 1 + i) (by omega)).trans (wd_kd_span (a := 62) (c := 78) (by decide +kernel) (by omega) (by omega)))) (by decide) (by decide) (by decide) (lk_chk_in (pl := 21087) (by decide +kernel)) (lk_chk_in (pl := 21080) (by decide +kernel)) (by omega) (by decide +kernel) (fun q r => gw_upm (fun ad2 h2 => ?_))
  rw [rl_rows (by decide)]
  have ok2a : gw_ok (rl_S ((61, 0, 16, 62) :: (8, 0, 0, 9) :: (9, 0, 50, 10) :: L0) d S0) (d + 79) := gw_ok_rlm (n := 17) ok1b (by decide)
  rw [← h2 (d + 8) (by omega)]
  have l2 : ((0 : Nat), Value.ref (ad2 (d + 8))) ∈ lv_args 0 [.ref (ad2 (d + 8))] := List.mem_cons_self
  refine gw_putr (oc := 3) (idx := 16) (k := d + 8) (v := d + 61) (q := (16, 3, 1, 21104)) C0 hnm rfl rfl (by omega) ((hkd 8 (by decide)).trans (by decide +kernel)) rfl (by decide +kernel) (by decide +kernel) ?_
  rw [rl_r]
  have ok2b : gw_ok (rl_S ((8, 1, 1, 61) :: (61, 0, 16, 62) :: (8, 0, 0, 9) :: (9, 0, 50, 10) :: L0) d S0) (d + 79) := gw_ok_rl ok2a (by omega) (by omega)
  refine fw_aload_n (i := 0) C0 l2 (by decide +kernel) ?_
  refine fw_bipush (n0 := 16) C0 (by decide +kernel) ?_
  refine fw_bipush (n0 := 6) C0 (by decide +kernel) ?_
  refine gw_mna (index := 9) (N := d + 79) (k := 16) (w := 6) C0 hAO.1 ok2b.1 ok2b.2 ((hkd 79 (by decide)).trans (by decide +kernel)) (fun i hi => (show kd (d + 79 + 1 + i) = _ by rw [show d + 79 + 1 + i = d + (79 + 1 + i) by omega]; exact (hkd (79 + 1 + i) (by omega)).trans (wd_kd_span (a := 80) (c := 95) (by decide +kernel) (by omega) (by omega)))) (by decide) (by decide) (by decide) (lk_chk_in (pl := 21087) (by decide +kernel)) (lk_chk_in (pl := 21080) (by decide +kernel)) (by omega) (by decide +kernel) (fun q r => gw_upm (fun ad3 h3 => ?_))
  rw [rl_rows (by decide)]
  have ok3a : gw_ok (rl_S ((79, 0, 15, 80) :: (8, 1, 1, 61) :: (61, 0, 16, 62) :: (8, 0, 0, 9) :: (9, 0, 50, 10) :: L0) d S0) (d + 96) := gw_ok_rlm (n := 16) ok2b (by decide)
  rw [← h3 (d + 8) (by omega)]
  have l3 : ((0 : Nat), Value.ref (ad3 (d + 8))) ∈ lv_args 0 [.ref (ad3 (d + 8))] := List.mem_cons_self
  refine gw_putr (oc := 3) (idx := 19) (k := d + 8) (v := d + 79) (q := (19, 3, 2, 21108)) C0 hnm rfl rfl (by omega) ((hkd 8 (by decide)).trans (by decide +kernel)) rfl (by decide +kernel) (by decide +kernel) ?_
  rw [rl_r]
  have ok3b : gw_ok (rl_S ((8, 2, 2, 79) :: (79, 0, 15, 80) :: (8, 1, 1, 61) :: (61, 0, 16, 62) :: (8, 0, 0, 9) :: (9, 0, 50, 10) :: L0) d S0) (d + 96) := gw_ok_rl ok3a (by omega) (by omega)
  refine fw_aload_n (i := 0) C0 l3 (by decide +kernel) ?_
  refine fw_bipush (n0 := 12) C0 (by decide +kernel) ?_
  refine gw_newa (N := d + 96) (K := 12) C0 ok3b.1 (ok3b.2 _ (Nat.le_refl _)) ((hkd 96 (by decide)).trans (by decide +kernel)) (by decide) (by decide) (by decide) (lk_chk_in (pl := 21080) (by decide +kernel)) (by omega) (by decide +kernel) (fun q => gw_up (fun ad4 h4 => ?_))
  have ok4a : gw_ok (rl_S ((8, 2, 2, 79) :: (79, 0, 15, 80) :: (8, 1, 1, 61) :: (61, 0, 16, 62) :: (8, 0, 0, 9) :: (9, 0, 50, 10) :: L0) d S0) (d + 97) := gw_ok_1 ok3b
  rw [← h4 (d + 8) (by omega)]
  have l4 : ((0 : Nat), Value.ref (ad4 (d + 8))) ∈ lv_args 0 [.ref (ad4 (d + 8))] := List.mem_cons_self
  refine gw_putr (oc := 3) (idx := 22) (k := d + 8) (v := d + 96) (q := (22, 3, 3, 21110)) C0 hnm rfl rfl (by omega) ((hkd 8 (by decide)).trans (by decide +kernel)) rfl (by decide +kernel) (by decide +kernel) ?_
  rw [rl_r]
  have ok4b : gw_ok (rl_S ((8, 3, 3, 96) :: (8, 2, 2, 79) :: (79, 0, 15, 80) :: (8, 1, 1, 61) :: (61, 0, 16, 62) :: (8, 0, 0, 9) :: (9, 0, 50, 10) :: L0) d S0) (d + 97) := gw_ok_rl ok4a (by omega) (by omega)
  have hk := kk ad4 (fun k hk => by rw [h4 k (by omega), h3 k (by omega), h2 k (by omega), h1 k (by omega)]) ok4b
  exact hk
theorem ctorA_Power (C0 : fw_C p s m args meth c D tc A "UtilityWorks$Power" prog_7_method_1_code nL) (hnm : meth.name = "<init>") (hAO : gw_AO s) (hkd : ∀ k, 1 ≤ k ∧ k ≤ 803 → kd (d + k) = wd_kd k) (hok : gw_ok (rl_S L0 d S0) (d + 98)) (hfr : 1 ≤ R.frames) (hlo : 60 ≤ R.locals) (hroom : n + 38 ≤ R.cells ∧ 6 * (n + 38) ≤ R.slots)
    (kk : ∀ ad1 : Nat → Nat, (∀ k, k < d + 98 → ad1 k = ad k) → gw_ok (rl_S ((97, 14, 14, 115) :: (97, 13, 13, 114) :: (97, 12, 12, 113) :: (97, 11, 11, 112) :: (97, 10, 10, 111) :: (97, 9, 9, 110) :: (97, 8, 8, 109) :: (97, 7, 7, 108) :: (97, 6, 6, 107) :: (97, 5, 5, 106) :: (97, 4, 4, 105) :: (97, 3, 3, 104) :: (97, 2, 2, 103) :: (97, 1, 1, 98) :: (98, 0, 3, 99) :: L0) d S0) (d + 116) → fw_W p l e R s m args below meth c Q D tc ad1 kd (d + 116) nL A 115 (lv_args 0 [.ref (ad1 (d + 97))]) [] (rl_S ((97, 14, 14, 115) :: (97, 13, 13, 114) :: (97, 12, 12, 113) :: (97, 11, 11, 112) :: (97, 10, 10, 111) :: (97, 9, 9, 110) :: (97, 8, 8, 109) :: (97, 7, 7, 108) :: (97, 6, 6, 107) :: (97, 5, 5, 106) :: (97, 4, 4, 105) :: (97, 3, 3, 104) :: (97, 2, 2, 103) :: (97, 1, 1, 98) :: (98, 0, 3, 99) :: L0) d S0) (n + (1 + 4 + (4 + 4 * 3) / 6 + 1) + (1 + 10 / 6) + (1 + 6 / 6) + (1 + 17 / 6) + (1 + 12 / 6) + (1 + 12 / 6) + (1 + 12 / 6) + (1 + 12 / 6) + (1 + 12 / 6) + (1 + 17 / 6) + (1 + 4 / 6) + (1 + 10 / 6) + (1 + 3 / 6) + (1 + 5 / 6))) :
    fw_W p l e R s m args below meth c Q D tc ad kd (d + 98) nL A 0 (lv_args 0 [.ref (ad (d + 97))]) [] (rl_S L0 d S0) n := by
  have l0 : ((0 : Nat), Value.ref (ad (d + 97))) ∈ lv_args 0 [.ref (ad (d + 97))] := List.mem_cons_self
  have ok0 : gw_ok (rl_S L0 d S0) (d + 98) := hok
  refine fw_aload_n (i := 0) C0 l0 (by decide +kernel) ?_
  refine gw_obj (idx := 3) C0 (lk_chk_in (pl := 21131) (by decide +kernel)) (lk_chk_in (pl := 21030) (by decide +kernel)) (lk_chk_in (pl := 21031) (by decide +kernel)) hfr (by omega) (by decide) (by decide +kernel) ?_
  refine fw_aload_n (i := 0) C0 l0 (by decide +kernel) ?_
  refine fw_iconst (n0 := 4) C0 (by decide +kernel) ?_
  refine fw_iconst (n0 := 3) C0 (by decide +kernel) ?_
  refine gw_mna (index := 11) (N := d + 98) (k := 4) (w := 3) C0 hAO.1 ok0.1 ok0.2 ((hkd 98 (by decide)).trans (by decide +kernel)) (fun i hi => (show kd (d + 98 + 1 + i) = _ by rw [show d + 98 + 1 + i = d + (98 + 1 + i) by omega]; exact (hkd (98 + 1 + i) (by omega)).trans (wd_kd_span (a := 99) (c := 102) (by decide +kernel) (by omega) (by omega)))) (by decide) (by decide) (by decide) (lk_chk_in (pl := 21132) (by decide +kernel)) (lk_chk_in (pl := 21080) (by decide +kernel)) (by omega) (by decide +kernel) (fun q r => gw_upm (fun ad1 h1 => ?_))
  rw [rl_rows (by decide)]
  have ok1a : gw_ok (rl_S ((98, 0, 3, 99) :: L0) d S0) (d + 103) := gw_ok_rlm (n := 4) ok0 (by decide)
  rw [← h1 (d + 97) (by omega)]
  have l1 : ((0 : Nat), Value.ref (ad1 (d + 97))) ∈ lv_args 0 [.ref (ad1 (d + 97))] := List.mem_cons_self
  refine gw_putr (oc := 5) (idx := 13) (k := d + 97) (v := d + 98) (q := (13, 5, 1, 21139)) C0 hnm rfl rfl (by omega) ((hkd 97 (by decide)).trans (by decide +kernel)) rfl (by decide +kernel) (by decide +kernel) ?_
  rw [rl_r]
  have ok1b : gw_ok (rl_S ((97, 1, 1, 98) :: (98, 0, 3, 99) :: L0) d S0) (d + 103) := gw_ok_rl ok1a (by omega) (by omega)
  refine fw_aload_n (i := 0) C0 l1 (by decide +kernel) ?_
  refine fw_bipush (n0 := 10) C0 (by decide +kernel) ?_
  refine gw_newa (N := d + 103) (K := 10) C0 ok1b.1 (ok1b.2 _ (Nat.le_refl _)) ((hkd 103 (by decide)).trans (by decide +kernel)) (by decide) (by decide) (by decide) (lk_chk_in (pl := 21080) (by decide +kernel)) (by omega) (by decide +kernel) (fun q => gw_up (fun ad2 h2 => ?_))
  have ok2a : gw_ok (rl_S ((97, 1, 1, 98) :: (98, 0, 3, 99) :: L0) d S0) (d + 104) := gw_ok_1 ok1b
  rw [← h2 (d + 97) (by omega)]
  have l2 : ((0 : Nat), Value.ref (ad2 (d + 97))) ∈ lv_args 0 [.ref (ad2 (d + 97))] := List.mem_cons_self
  refine gw_putr (oc := 5) (idx := 16) (k := d + 97) (v := d + 103) (q := (16, 5, 2, 21141)) C0 hnm rfl rfl (by omega) ((hkd 97 (by decide)).trans (by decide +kernel)) rfl (by decide +kernel) (by decide +kernel) ?_
  rw [rl_r]
  have ok2b : gw_ok (rl_S ((97, 2, 2, 103) :: (97, 1, 1, 98) :: (98, 0, 3, 99) :: L0) d S0) (d + 104) := gw_ok_rl ok2a (by omega) (by omega)
  refine fw_aload_n (i := 0) C0 l2 (by decide +kernel) ?_
  refine fw_bipush (n0 := 6) C0 (by decide +kernel) ?_
  refine gw_newl (N := d + 104) (K := 6) C0 ok2b.1 (ok2b.2 _ (Nat.le_refl _)) ((hkd 104 (by decide)).trans (by decide +kernel)) (by decide) (by decide) (by decide) (lk_chk_in (pl := 21201) (by decide +kernel)) (by omega) (by decide +kernel) (fun q => gw_up (fun ad3 h3 => ?_))
  have ok3a : gw_ok (rl_S ((97, 2, 2, 103) :: (97, 1, 1, 98) :: (98, 0, 3, 99) :: L0) d S0) (d + 105) := gw_ok_1 ok2b
  rw [← h3 (d + 97) (by omega)]
  have l3 : ((0 : Nat), Value.ref (ad3 (d + 97))) ∈ lv_args 0 [.ref (ad3 (d + 97))] := List.mem_cons_self
  refine gw_putr (oc := 5) (idx := 20) (k := d + 97) (v := d + 104) (q := (20, 5, 3, 21143)) C0 hnm rfl rfl (by omega) ((hkd 97 (by decide)).trans (by decide +kernel)) rfl (by decide +kernel) (by decide +kernel) ?_
  rw [rl_r]
  have ok3b : gw_ok (rl_S ((97, 3, 3, 104) :: (97, 2, 2, 103) :: (97, 1, 1, 98) :: (98, 0, 3, 99) :: L0) d S0) (d + 105) := gw_ok_rl ok3a (by omega) (by omega)
  refine fw_aload_n (i := 0) C0 l3 (by decide +kernel) ?_
  refine fw_bipush (n0 := 17) C0 (by decide +kernel) ?_
  refine gw_newz (N := d + 105) (K := 17) C0 ok3b.1 (ok3b.2 _ (Nat.le_refl _)) ((hkd 105 (by decide)).trans (by decide +kernel)) (by decide) (by decide) (by decide) (lk_chk_in (pl := 21079) (by decide +kernel)) (by omega) (by decide +kernel) (fun q => gw_up (fun ad4 h4 => ?_))
  have ok4a : gw_ok (rl_S ((97, 3, 3, 104) :: (97, 2, 2, 103) :: (97, 1, 1, 98) :: (98, 0, 3, 99) :: L0) d S0) (d + 106) := gw_ok_1 ok3b
  rw [← h4 (d + 97) (by omega)]
  have l4 : ((0 : Nat), Value.ref (ad4 (d + 97))) ∈ lv_args 0 [.ref (ad4 (d + 97))] := List.mem_cons_self
  refine gw_putr (oc := 5) (idx := 24) (k := d + 97) (v := d + 105) (q := (24, 5, 4, 21145)) C0 hnm rfl rfl (by omega) ((hkd 97 (by decide)).trans (by decide +kernel)) rfl (by decide +kernel) (by decide +kernel) ?_
  rw [rl_r]
  have ok4b : gw_ok (rl_S ((97, 4, 4, 105) :: (97, 3, 3, 104) :: (97, 2, 2, 103) :: (97, 1, 1, 98) :: (98, 0, 3, 99) :: L0) d S0) (d + 106) := gw_ok_rl ok4a (by omega) (by omega)
  refine fw_aload_n (i := 0) C0 l4 (by decide +kernel) ?_
  refine fw_bipush (n0 := 12) C0 (by decide +kernel) ?_
  refine gw_newa (N := d + 106) (K := 12) C0 ok4b.1 (ok4b.2 _ (Nat.le_refl _)) ((hkd 106 (by decide)).trans (by decide +kernel)) (by decide) (by decide) (by decide) (lk_chk_in (pl := 21080) (by decide +kernel)) (by omega) (by decide +kernel) (fun q => gw_up (fun ad5 h5 => ?_))
  have ok5a : gw_ok (rl_S ((97, 4, 4, 105) :: (97, 3, 3, 104) :: (97, 2, 2, 103) :: (97, 1, 1, 98) :: (98, 0, 3, 99) :: L0) d S0) (d + 107) := gw_ok_1 ok4b
  rw [← h5 (d + 97) (by omega)]
  have l5 : ((0 : Nat), Value.ref (ad5 (d + 97))) ∈ lv_args 0 [.ref (ad5 (d + 97))] := List.mem_cons_self
  refine gw_putr (oc := 5) (idx := 28) (k := d + 97) (v := d + 106) (q := (28, 5, 5, 21147)) C0 hnm rfl rfl (by omega) ((hkd 97 (by decide)).trans (by decide +kernel)) rfl (by decide +kernel) (by decide +kernel) ?_
  rw [rl_r]
  have ok5b : gw_ok (rl_S ((97, 5, 5, 106) :: (97, 4, 4, 105) :: (97, 3, 3, 104) :: (97, 2, 2, 103) :: (97, 1, 1, 98) :: (98, 0, 3, 99) :: L0) d S0) (d + 107) := gw_ok_rl ok5a (by omega) (by omega)
  refine fw_aload_n (i := 0) C0 l5 (by decide +kernel) ?_
  refine fw_bipush (n0 := 12) C0 (by decide +kernel) ?_
  refine gw_newa (N := d + 107) (K := 12) C0 ok5b.1 (ok5b.2 _ (Nat.le_refl _)) ((hkd 107 (by decide)).trans (by decide +kernel)) (by decide) (by decide) (by decide) (lk_chk_in (pl := 21080) (by decide +kernel)) (by omega) (by decide +kernel) (fun q => gw_up (fun ad6 h6 => ?_))
  have ok6a : gw_ok (rl_S ((97, 5, 5, 106) :: (97, 4, 4, 105) :: (97, 3, 3, 104) :: (97, 2, 2, 103) :: (97, 1, 1, 98) :: (98, 0, 3, 99) :: L0) d S0) (d + 108) := gw_ok_1 ok5b
  rw [← h6 (d + 97) (by omega)]
  have l6 : ((0 : Nat), Value.ref (ad6 (d + 97))) ∈ lv_args 0 [.ref (ad6 (d + 97))] := List.mem_cons_self
  refine gw_putr (oc := 5) (idx := 31) (k := d + 97) (v := d + 107) (q := (31, 5, 6, 21148)) C0 hnm rfl rfl (by omega) ((hkd 97 (by decide)).trans (by decide +kernel)) rfl (by decide +kernel) (by decide +kernel) ?_
  rw [rl_r]
  have ok6b : gw_ok (rl_S ((97, 6, 6, 107) :: (97, 5, 5, 106) :: (97, 4, 4, 105) :: (97, 3, 3, 104) :: (97, 2, 2, 103) :: (97, 1, 1, 98) :: (98, 0, 3, 99) :: L0) d S0) (d + 108) := gw_ok_rl ok6a (by omega) (by omega)
  refine fw_aload_n (i := 0) C0 l6 (by decide +kernel) ?_
  refine fw_bipush (n0 := 12) C0 (by decide +kernel) ?_
  refine gw_newa (N := d + 108) (K := 12) C0 ok6b.1 (ok6b.2 _ (Nat.le_refl _)) ((hkd 108 (by decide)).trans (by decide +kernel)) (by decide) (by decide) (by decide) (lk_chk_in (pl := 21080) (by decide +kernel)) (by omega) (by decide +kernel) (fun q => gw_up (fun ad7 h7 => ?_))
  have ok7a : gw_ok (rl_S ((97, 6, 6, 107) :: (97, 5, 5, 106) :: (97, 4, 4, 105) :: (97, 3, 3, 104) :: (97, 2, 2, 103) :: (97, 1, 1, 98) :: (98, 0, 3, 99) :: L0) d S0) (d + 109) := gw_ok_1 ok6b
  rw [← h7 (d + 97) (by omega)]
  have l7 : ((0 : Nat), Value.ref (ad7 (d + 97))) ∈ lv_args 0 [.ref (ad7 (d + 97))] := List.mem_cons_self
  refine gw_putr (oc := 5) (idx := 34) (k := d + 97) (v := d + 108) (q := (34, 5, 7, 21149)) C0 hnm rfl rfl (by omega) ((hkd 97 (by decide)).trans (by decide +kernel)) rfl (by decide +kernel) (by decide +kernel) ?_
  rw [rl_r]
  have ok7b : gw_ok (rl_S ((97, 7, 7, 108) :: (97, 6, 6, 107) :: (97, 5, 5, 106) :: (97, 4, 4, 105) :: (97, 3, 3, 104) :: (97, 2, 2, 103) :: (97, 1, 1, 98) :: (98, 0, 3, 99) :: L0) d S0) (d + 109) := gw_ok_rl ok7a (by omega) (by omega)
  refine fw_aload_n (i := 0) C0 l7 (by decide +kernel) ?_
  refine fw_bipush (n0 := 12) C0 (by decide +kernel) ?_
  refine gw_newa (N := d + 109) (K := 12) C0 ok7b.1 (ok7b.2 _ (Nat.le_refl _)) ((hkd 109 (by decide)).trans (by decide +kernel)) (by decide) (by decide) (by decide) (lk_chk_in (pl := 21080) (by decide +kernel)) (by omega) (by decide +kernel) (fun q => gw_up (fun ad8 h8 => ?_))
  have ok8a : gw_ok (rl_S ((97, 7, 7, 108) :: (97, 6, 6, 107) :: (97, 5, 5, 106) :: (97, 4, 4, 105) :: (97, 3, 3, 104) :: (97, 2, 2, 103) :: (97, 1, 1, 98) :: (98, 0, 3, 99) :: L0) d S0) (d + 110) := gw_ok_1 ok7b
  rw [← h8 (d + 97) (by omega)]
  have l8 : ((0 : Nat), Value.ref (ad8 (d + 97))) ∈ lv_args 0 [.ref (ad8 (d + 97))] := List.mem_cons_self
  refine gw_putr (oc := 5) (idx := 37) (k := d + 97) (v := d + 109) (q := (37, 5, 8, 21150)) C0 hnm rfl rfl (by omega) ((hkd 97 (by decide)).trans (by decide +kernel)) rfl (by decide +kernel) (by decide +kernel) ?_
  rw [rl_r]
  have ok8b : gw_ok (rl_S ((97, 8, 8, 109) :: (97, 7, 7, 108) :: (97, 6, 6, 107) :: (97, 5, 5, 106) :: (97, 4, 4, 105) :: (97, 3, 3, 104) :: (97, 2, 2, 103) :: (97, 1, 1, 98) :: (98, 0, 3, 99) :: L0) d S0) (d + 110) := gw_ok_rl ok8a (by omega) (by omega)
  refine fw_aload_n (i := 0) C0 l8 (by decide +kernel) ?_
  refine fw_bipush (n0 := 12) C0 (by decide +kernel) ?_
  refine gw_newa (N := d + 110) (K := 12) C0 ok8b.1 (ok8b.2 _ (Nat.le_refl _)) ((hkd 110 (by decide)).trans (by decide +kernel)) (by decide) (by decide) (by decide) (lk_chk_in (pl := 21080) (by decide +kernel)) (by omega) (by decide +kernel) (fun q => gw_up (fun ad9 h9 => ?_))
  have ok9a : gw_ok (rl_S ((97, 8, 8, 109) :: (97, 7, 7, 108) :: (97, 6, 6, 107) :: (97, 5, 5, 106) :: (97, 4, 4, 105) :: (97, 3, 3, 104) :: (97, 2, 2, 103) :: (97, 1, 1, 98) :: (98, 0, 3, 99) :: L0) d S0) (d + 111) := gw_ok_1 ok8b
  rw [← h9 (d + 97) (by omega)]
  have l9 : ((0 : Nat), Value.ref (ad9 (d + 97))) ∈ lv_args 0 [.ref (ad9 (d + 97))] := List.mem_cons_self
  refine gw_putr (oc := 5) (idx := 40) (k := d + 97) (v := d + 110) (q := (40, 5, 9, 21151)) C0 hnm rfl rfl (by omega) ((hkd 97 (by decide)).trans (by decide +kernel)) rfl (by decide +kernel) (by decide +kernel) ?_
  rw [rl_r]
  have ok9b : gw_ok (rl_S ((97, 9, 9, 110) :: (97, 8, 8, 109) :: (97, 7, 7, 108) :: (97, 6, 6, 107) :: (97, 5, 5, 106) :: (97, 4, 4, 105) :: (97, 3, 3, 104) :: (97, 2, 2, 103) :: (97, 1, 1, 98) :: (98, 0, 3, 99) :: L0) d S0) (d + 111) := gw_ok_rl ok9a (by omega) (by omega)
  refine fw_aload_n (i := 0) C0 l9 (by decide +kernel) ?_
  refine fw_bipush (n0 := 17) C0 (by decide +kernel) ?_
  refine gw_newa (N := d + 111) (K := 17) C0 ok9b.1 (ok9b.2 _ (Nat.le_refl _)) ((hkd 111 (by decide)).trans (by decide +kernel)) (by decide) (by decide) (by decide) (lk_chk_in (pl := 21080) (by decide +kernel)) (by omega) (by decide +kernel) (fun q => gw_up (fun ad10 h10 => ?_))
  have ok10a : gw_ok (rl_S ((97, 9, 9, 110) :: (97, 8, 8, 109) :: (97, 7, 7, 108) :: (97, 6, 6, 107) :: (97, 5, 5, 106) :: (97, 4, 4, 105) :: (97, 3, 3, 104) :: (97, 2, 2, 103) :: (97, 1, 1, 98) :: (98, 0, 3, 99) :: L0) d S0) (d + 112) := gw_ok_1 ok9b
  rw [← h10 (d + 97) (by omega)]
  have l10 : ((0 : Nat), Value.ref (ad10 (d + 97))) ∈ lv_args 0 [.ref (ad10 (d + 97))] := List.mem_cons_self
  refine gw_putr (oc := 5) (idx := 43) (k := d + 97) (v := d + 111) (q := (43, 5, 10, 21152)) C0 hnm rfl rfl (by omega) ((hkd 97 (by decide)).trans (by decide +kernel)) rfl (by decide +kernel) (by decide +kernel) ?_
  rw [rl_r]
  have ok10b : gw_ok (rl_S ((97, 10, 10, 111) :: (97, 9, 9, 110) :: (97, 8, 8, 109) :: (97, 7, 7, 108) :: (97, 6, 6, 107) :: (97, 5, 5, 106) :: (97, 4, 4, 105) :: (97, 3, 3, 104) :: (97, 2, 2, 103) :: (97, 1, 1, 98) :: (98, 0, 3, 99) :: L0) d S0) (d + 112) := gw_ok_rl ok10a (by omega) (by omega)
  refine fw_aload_n (i := 0) C0 l10 (by decide +kernel) ?_
  refine fw_iconst (n0 := 4) C0 (by decide +kernel) ?_
  refine gw_newa (N := d + 112) (K := 4) C0 ok10b.1 (ok10b.2 _ (Nat.le_refl _)) ((hkd 112 (by decide)).trans (by decide +kernel)) (by decide) (by decide) (by decide) (lk_chk_in (pl := 21080) (by decide +kernel)) (by omega) (by decide +kernel) (fun q => gw_up (fun ad11 h11 => ?_))
  have ok11a : gw_ok (rl_S ((97, 10, 10, 111) :: (97, 9, 9, 110) :: (97, 8, 8, 109) :: (97, 7, 7, 108) :: (97, 6, 6, 107) :: (97, 5, 5, 106) :: (97, 4, 4, 105) :: (97, 3, 3, 104) :: (97, 2, 2, 103) :: (97, 1, 1, 98) :: (98, 0, 3, 99) :: L0) d S0) (d + 113) := gw_ok_1 ok10b
  rw [← h11 (d + 97) (by omega)]
  have l11 : ((0 : Nat), Value.ref (ad11 (d + 97))) ∈ lv_args 0 [.ref (ad11 (d + 97))] := List.mem_cons_self
  refine gw_putr (oc := 5) (idx := 46) (k := d + 97) (v := d + 112) (q := (46, 5, 11, 21154)) C0 hnm rfl rfl (by omega) ((hkd 97 (by decide)).trans (by decide +kernel)) rfl (by decide +kernel) (by decide +kernel) ?_
  rw [rl_r]
  have ok11b : gw_ok (rl_S ((97, 11, 11, 112) :: (97, 10, 10, 111) :: (97, 9, 9, 110) :: (97, 8, 8, 109) :: (97, 7, 7, 108) :: (97, 6, 6, 107) :: (97, 5, 5, 106) :: (97, 4, 4, 105) :: (97, 3, 3, 104) :: (97, 2, 2, 103) :: (97, 1, 1, 98) :: (98, 0, 3, 99) :: L0) d S0) (d + 113) := gw_ok_rl ok11a (by omega) (by omega)
  refine fw_aload_n (i := 0) C0 l11 (by decide +kernel) ?_
  refine fw_bipush (n0 := 10) C0 (by decide +kernel) ?_
  refine gw_newa (N := d + 113) (K := 10) C0 ok11b.1 (ok11b.2 _ (Nat.le_refl _)) ((hkd 113 (by decide)).trans (by decide +kernel)) (by decide) (by decide) (by decide) (lk_chk_in (pl := 21080) (by decide +kernel)) (by omega) (by decide +kernel) (fun q => gw_up (fun ad12 h12 => ?_))
  have ok12a : gw_ok (rl_S ((97, 11, 11, 112) :: (97, 10, 10, 111) :: (97, 9, 9, 110) :: (97, 8, 8, 109) :: (97, 7, 7, 108) :: (97, 6, 6, 107) :: (97, 5, 5, 106) :: (97, 4, 4, 105) :: (97, 3, 3, 104) :: (97, 2, 2, 103) :: (97, 1, 1, 98) :: (98, 0, 3, 99) :: L0) d S0) (d + 114) := gw_ok_1 ok11b
  rw [← h12 (d + 97) (by omega)]
  have l12 : ((0 : Nat), Value.ref (ad12 (d + 97))) ∈ lv_args 0 [.ref (ad12 (d + 97))] := List.mem_cons_self
  refine gw_putr (oc := 5) (idx := 49) (k := d + 97) (v := d + 113) (q := (49, 5, 12, 21156)) C0 hnm rfl rfl (by omega) ((hkd 97 (by decide)).trans (by decide +kernel)) rfl (by decide +kernel) (by decide +kernel) ?_
  rw [rl_r]
  have ok12b : gw_ok (rl_S ((97, 12, 12, 113) :: (97, 11, 11, 112) :: (97, 10, 10, 111) :: (97, 9, 9, 110) :: (97, 8, 8, 109) :: (97, 7, 7, 108) :: (97, 6, 6, 107) :: (97, 5, 5, 106) :: (97, 4, 4, 105) :: (97, 3, 3, 104) :: (97, 2, 2, 103) :: (97, 1, 1, 98) :: (98, 0, 3, 99) :: L0) d S0) (d + 114) := gw_ok_rl ok12a (by omega) (by omega)
  refine fw_aload_n (i := 0) C0 l12 (by decide +kernel) ?_
  refine fw_iconst (n0 := 3) C0 (by decide +kernel) ?_
  refine gw_newa (N := d + 114) (K := 3) C0 ok12b.1 (ok12b.2 _ (Nat.le_refl _)) ((hkd 114 (by decide)).trans (by decide +kernel)) (by decide) (by decide) (by decide) (lk_chk_in (pl := 21080) (by decide +kernel)) (by omega) (by decide +kernel) (fun q => gw_up (fun ad13 h13 => ?_))
  have ok13a : gw_ok (rl_S ((97, 12, 12, 113) :: (97, 11, 11, 112) :: (97, 10, 10, 111) :: (97, 9, 9, 110) :: (97, 8, 8, 109) :: (97, 7, 7, 108) :: (97, 6, 6, 107) :: (97, 5, 5, 106) :: (97, 4, 4, 105) :: (97, 3, 3, 104) :: (97, 2, 2, 103) :: (97, 1, 1, 98) :: (98, 0, 3, 99) :: L0) d S0) (d + 115) := gw_ok_1 ok12b
  rw [← h13 (d + 97) (by omega)]
  have l13 : ((0 : Nat), Value.ref (ad13 (d + 97))) ∈ lv_args 0 [.ref (ad13 (d + 97))] := List.mem_cons_self
  refine gw_putr (oc := 5) (idx := 52) (k := d + 97) (v := d + 114) (q := (52, 5, 13, 21159)) C0 hnm rfl rfl (by omega) ((hkd 97 (by decide)).trans (by decide +kernel)) rfl (by decide +kernel) (by decide +kernel) ?_
  rw [rl_r]
  have ok13b : gw_ok (rl_S ((97, 13, 13, 114) :: (97, 12, 12, 113) :: (97, 11, 11, 112) :: (97, 10, 10, 111) :: (97, 9, 9, 110) :: (97, 8, 8, 109) :: (97, 7, 7, 108) :: (97, 6, 6, 107) :: (97, 5, 5, 106) :: (97, 4, 4, 105) :: (97, 3, 3, 104) :: (97, 2, 2, 103) :: (97, 1, 1, 98) :: (98, 0, 3, 99) :: L0) d S0) (d + 115) := gw_ok_rl ok13a (by omega) (by omega)
  refine fw_aload_n (i := 0) C0 l13 (by decide +kernel) ?_
  refine fw_iconst (n0 := 5) C0 (by decide +kernel) ?_
  refine gw_newa (N := d + 115) (K := 5) C0 ok13b.1 (ok13b.2 _ (Nat.le_refl _)) ((hkd 115 (by decide)).trans (by decide +kernel)) (by decide) (by decide) (by decide) (lk_chk_in (pl := 21080) (by decide +kernel)) (by omega) (by decide +kernel) (fun q => gw_up (fun ad14 h14 => ?_))
  have ok14a : gw_ok (rl_S ((97, 13, 13, 114) :: (97, 12, 12, 113) :: (97, 11, 11, 112) :: (97, 10, 10, 111) :: (97, 9, 9, 110) :: (97, 8, 8, 109) :: (97, 7, 7, 108) :: (97, 6, 6, 107) :: (97, 5, 5, 106) :: (97, 4, 4, 105) :: (97, 3, 3, 104) :: (97, 2, 2, 103) :: (97, 1, 1, 98) :: (98, 0, 3, 99) :: L0) d S0) (d + 116) := gw_ok_1 ok13b
  rw [← h14 (d + 97) (by omega)]
  have l14 : ((0 : Nat), Value.ref (ad14 (d + 97))) ∈ lv_args 0 [.ref (ad14 (d + 97))] := List.mem_cons_self
  refine gw_putr (oc := 5) (idx := 55) (k := d + 97) (v := d + 115) (q := (55, 5, 14, 21161)) C0 hnm rfl rfl (by omega) ((hkd 97 (by decide)).trans (by decide +kernel)) rfl (by decide +kernel) (by decide +kernel) ?_
  rw [rl_r]
  have ok14b : gw_ok (rl_S ((97, 14, 14, 115) :: (97, 13, 13, 114) :: (97, 12, 12, 113) :: (97, 11, 11, 112) :: (97, 10, 10, 111) :: (97, 9, 9, 110) :: (97, 8, 8, 109) :: (97, 7, 7, 108) :: (97, 6, 6, 107) :: (97, 5, 5, 106) :: (97, 4, 4, 105) :: (97, 3, 3, 104) :: (97, 2, 2, 103) :: (97, 1, 1, 98) :: (98, 0, 3, 99) :: L0) d S0) (d + 116) := gw_ok_rl ok14a (by omega) (by omega)
  have hk := kk ad14 (fun k hk => by rw [h14 k (by omega), h13 k (by omega), h12 k (by omega), h11 k (by omega), h10 k (by omega), h9 k (by omega), h8 k (by omega), h7 k (by omega), h6 k (by omega), h5 k (by omega), h4 k (by omega), h3 k (by omega), h2 k (by omega), h1 k (by omega)]) ok14b
  exact hk
theorem ctorA_Water (C0 : fw_C p s m args meth c D tc A "UtilityWorks$Water" prog_11_method_1_code nL) (hnm : meth.name = "<init>") (hAO : gw_AO s) (hkd : ∀ k, 1 ≤ k ∧ k ≤ 803 → kd (d + k) = wd_kd k) (hok : gw_ok (rl_S L0 d S0) (d + 117)) (hfr : 1 ≤ R.frames) (hlo : 60 ≤ R.locals) (hroom : n + 73 ≤ R.cells ∧ 6 * (n + 73) ≤ R.slots)
    (kk : ∀ ad1 : Nat → Nat, (∀ k, k < d + 117 → ad1 k = ad k) → gw_ok (rl_S ((116, 17, 17, 146) :: (116, 16, 16, 140) :: (140, 0, 4, 141) :: (116, 15, 15, 137) :: (137, 0, 1, 138) :: (116, 14, 14, 136) :: (116, 13, 13, 135) :: (116, 12, 12, 134) :: (116, 11, 11, 133) :: (116, 10, 10, 132) :: (116, 9, 9, 131) :: (116, 8, 8, 130) :: (116, 7, 7, 129) :: (116, 6, 6, 128) :: (116, 5, 5, 127) :: (116, 4, 4, 126) :: (116, 3, 3, 121) :: (121, 0, 3, 122) :: (116, 1, 1, 117) :: (117, 0, 2, 118) :: L0) d S0) (d + 147) → fw_W p l e R s m args below meth c Q D tc ad1 kd (d + 147) nL A 142 (lv_args 0 [.ref (ad1 (d + 116))]) [] (rl_S ((116, 17, 17, 146) :: (116, 16, 16, 140) :: (140, 0, 4, 141) :: (116, 15, 15, 137) :: (137, 0, 1, 138) :: (116, 14, 14, 136) :: (116, 13, 13, 135) :: (116, 12, 12, 134) :: (116, 11, 11, 133) :: (116, 10, 10, 132) :: (116, 9, 9, 131) :: (116, 8, 8, 130) :: (116, 7, 7, 129) :: (116, 6, 6, 128) :: (116, 5, 5, 127) :: (116, 4, 4, 126) :: (116, 3, 3, 121) :: (121, 0, 3, 122) :: (116, 1, 1, 117) :: (117, 0, 2, 118) :: L0) d S0) (n + (1 + 3 + (3 + 3 * 4) / 6 + 1) + (1 + 4 + (4 + 4 * 4) / 6 + 1) + (1 + 12 / 6) + (1 + 6 / 6) + (1 + 7 / 6) + (1 + 7 / 6) + (1 + 7 / 6) + (1 + 7 / 6) + (1 + 12 / 6) + (1 + 12 / 6) + (1 + 12 / 6) + (1 + 12 / 6) + (1 + 17 / 6) + (1 + 2 + (2 + 2 * 17) / 6 + 1) + (1 + 5 + (5 + 5 * 12) / 6 + 1) + (1 + 10 / 6))) :
    fw_W p l e R s m args below meth c Q D tc ad kd (d + 117) nL A 0 (lv_args 0 [.ref (ad (d + 116))]) [] (rl_S L0 d S0) n := by
  have l0 : ((0 : Nat), Value.ref (ad (d + 116))) ∈ lv_args 0 [.ref (ad (d + 116))] := List.mem_cons_self
  have ok0 : gw_ok (rl_S L0 d S0) (d + 117) := hok
  refine fw_aload_n (i := 0) C0 l0 (by decide +kernel) ?_
  refine gw_obj (idx := 5) C0 (lk_chk_in (pl := 21207) (by decide +kernel)) (lk_chk_in (pl := 21030) (by decide +kernel)) (lk_chk_in (pl := 21031) (by decide +kernel)) hfr (by omega) (by decide) (by decide +kernel) ?_
  refine fw_aload_n (i := 0) C0 l0 (by decide +kernel) ?_
  refine fw_iconst (n0 := 3) C0 (by decide +kernel) ?_
  refine fw_iconst (n0 := 4) C0 (by decide +kernel) ?_
  refine gw_mna (index := 11) (N := d + 117) (k := 3) (w := 4) C0 hAO.1 ok0.1 ok0.2 ((hkd 117 (by decide)).trans (by decide +kernel)) (fun i hi => (show kd (d + 117 + 1 + i) = _ by rw [show d + 117 + 1 + i = d + (117 + 1 + i) by omega]; exact (hkd (117 + 1 + i) (by omega)).trans (wd_kd_span (a := 118) (c := 120) (by decide +kernel) (by omega) (by omega)))) (by decide) (by decide) (by decide) (lk_chk_in (pl := 21208) (by decide +kernel)) (lk_chk_in (pl := 21080) (by decide +kernel)) (by omega) (by decide +kernel) (fun q r => gw_upm (fun ad1 h1 => ?_))
  rw [rl_rows (by decide)]
  have ok1a : gw_ok (rl_S ((117, 0, 2, 118) :: L0) d S0) (d + 121) := gw_ok_rlm (n := 3) ok0 (by decide)
  rw [← h1 (d + 116) (by omega)]
  have l1 : ((0 : Nat), Value.ref (ad1 (d + 116))) ∈ lv_args 0 [.ref (ad1 (d + 116))] := List.mem_cons_self
  refine gw_putr (oc := 9) (idx := 13) (k := d + 116) (v := d + 117) (q := (13, 9, 1, 21220)) C0 hnm rfl rfl (by omega) ((hkd 116 (by decide)).trans (by decide +kernel)) rfl (by decide +kernel) (by decide +kernel) ?_
  rw [rl_r]
  have ok1b : gw_ok (rl_S ((116, 1, 1, 117) :: (117, 0, 2, 118) :: L0) d S0) (d + 121) := gw_ok_rl ok1a (by omega) (by omega)
  refine fw_aload_n (i := 0) C0 l1 (by decide +kernel) ?_
  refine fw_iconst (n0 := 4) C0 (by decide +kernel) ?_
  refine fw_iconst (n0 := 4) C0 (by decide +kernel) ?_
  refine gw_mna (index := 11) (N := d + 121) (k := 4) (w := 4) C0 hAO.1 ok1b.1 ok1b.2 ((hkd 121 (by decide)).trans (by decide +kernel)) (fun i hi => (show kd (d + 121 + 1 + i) = _ by rw [show d + 121 + 1 + i = d + (121 + 1 + i) by omega]; exact (hkd (121 + 1 + i) (by omega)).trans (wd_kd_span (a := 122) (c := 125) (by decide +kernel) (by omega) (by omega)))) (by decide) (by decide) (by decide) (lk_chk_in (pl := 21208) (by decide +kernel)) (lk_chk_in (pl := 21080) (by decide +kernel)) (by omega) (by decide +kernel) (fun q r => gw_upm (fun ad2 h2 => ?_))
  rw [rl_rows (by decide)]
  have ok2a : gw_ok (rl_S ((121, 0, 3, 122) :: (116, 1, 1, 117) :: (117, 0, 2, 118) :: L0) d S0) (d + 126) := gw_ok_rlm (n := 4) ok1b (by decide)
  rw [← h2 (d + 116) (by omega)]
  have l2 : ((0 : Nat), Value.ref (ad2 (d + 116))) ∈ lv_args 0 [.ref (ad2 (d + 116))] := List.mem_cons_self
  refine gw_putr (oc := 9) (idx := 16) (k := d + 116) (v := d + 121) (q := (16, 9, 3, 21225)) C0 hnm rfl rfl (by omega) ((hkd 116 (by decide)).trans (by decide +kernel)) rfl (by decide +kernel) (by decide +kernel) ?_
  rw [rl_r]
  have ok2b : gw_ok (rl_S ((116, 3, 3, 121) :: (121, 0, 3, 122) :: (116, 1, 1, 117) :: (117, 0, 2, 118) :: L0) d S0) (d + 126) := gw_ok_rl ok2a (by omega) (by omega)
  refine fw_aload_n (i := 0) C0 l2 (by decide +kernel) ?_
  refine fw_bipush (n0 := 12) C0 (by decide +kernel) ?_
  refine gw_newa (N := d + 126) (K := 12) C0 ok2b.1 (ok2b.2 _ (Nat.le_refl _)) ((hkd 126 (by decide)).trans (by decide +kernel)) (by decide) (by decide) (by decide) (lk_chk_in (pl := 21080) (by decide +kernel)) (by omega) (by decide +kernel) (fun q => gw_up (fun ad3 h3 => ?_))
  have ok3a : gw_ok (rl_S ((116, 3, 3, 121) :: (121, 0, 3, 122) :: (116, 1, 1, 117) :: (117, 0, 2, 118) :: L0) d S0) (d + 127) := gw_ok_1 ok2b
  rw [← h3 (d + 116) (by omega)]
  have l3 : ((0 : Nat), Value.ref (ad3 (d + 116))) ∈ lv_args 0 [.ref (ad3 (d + 116))] := List.mem_cons_self
  refine gw_putr (oc := 9) (idx := 19) (k := d + 116) (v := d + 126) (q := (19, 9, 4, 21227)) C0 hnm rfl rfl (by omega) ((hkd 116 (by decide)).trans (by decide +kernel)) rfl (by decide +kernel) (by decide +kernel) ?_
  rw [rl_r]
  have ok3b : gw_ok (rl_S ((116, 4, 4, 126) :: (116, 3, 3, 121) :: (121, 0, 3, 122) :: (116, 1, 1, 117) :: (117, 0, 2, 118) :: L0) d S0) (d + 127) := gw_ok_rl ok3a (by omega) (by omega)
  refine fw_aload_n (i := 0) C0 l3 (by decide +kernel) ?_
  refine fw_bipush (n0 := 6) C0 (by decide +kernel) ?_
  refine gw_newl (N := d + 127) (K := 6) C0 ok3b.1 (ok3b.2 _ (Nat.le_refl _)) ((hkd 127 (by decide)).trans (by decide +kernel)) (by decide) (by decide) (by decide) (lk_chk_in (pl := 21201) (by decide +kernel)) (by omega) (by decide +kernel) (fun q => gw_up (fun ad4 h4 => ?_))
  have ok4a : gw_ok (rl_S ((116, 4, 4, 126) :: (116, 3, 3, 121) :: (121, 0, 3, 122) :: (116, 1, 1, 117) :: (117, 0, 2, 118) :: L0) d S0) (d + 128) := gw_ok_1 ok3b
  rw [← h4 (d + 116) (by omega)]
  have l4 : ((0 : Nat), Value.ref (ad4 (d + 116))) ∈ lv_args 0 [.ref (ad4 (d + 116))] := List.mem_cons_self
  refine gw_putr (oc := 9) (idx := 23) (k := d + 116) (v := d + 127) (q := (23, 9, 5, 21228)) C0 hnm rfl rfl (by omega) ((hkd 116 (by decide)).trans (by decide +kernel)) rfl (by decide +kernel) (by decide +kernel) ?_
  rw [rl_r]
  have ok4b : gw_ok (rl_S ((116, 5, 5, 127) :: (116, 4, 4, 126) :: (116, 3, 3, 121) :: (121, 0, 3, 122) :: (116, 1, 1, 117) :: (117, 0, 2, 118) :: L0) d S0) (d + 128) := gw_ok_rl ok4a (by omega) (by omega)
  refine fw_aload_n (i := 0) C0 l4 (by decide +kernel) ?_
  refine fw_bipush (n0 := 7) C0 (by decide +kernel) ?_
  refine gw_newa (N := d + 128) (K := 7) C0 ok4b.1 (ok4b.2 _ (Nat.le_refl _)) ((hkd 128 (by decide)).trans (by decide +kernel)) (by decide) (by decide) (by decide) (lk_chk_in (pl := 21080) (by decide +kernel)) (by omega) (by decide +kernel) (fun q => gw_up (fun ad5 h5 => ?_))
  have ok5a : gw_ok (rl_S ((116, 5, 5, 127) :: (116, 4, 4, 126) :: (116, 3, 3, 121) :: (121, 0, 3, 122) :: (116, 1, 1, 117) :: (117, 0, 2, 118) :: L0) d S0) (d + 129) := gw_ok_1 ok4b
  rw [← h5 (d + 116) (by omega)]
  have l5 : ((0 : Nat), Value.ref (ad5 (d + 116))) ∈ lv_args 0 [.ref (ad5 (d + 116))] := List.mem_cons_self
  refine gw_putr (oc := 9) (idx := 27) (k := d + 116) (v := d + 128) (q := (27, 9, 6, 21230)) C0 hnm rfl rfl (by omega) ((hkd 116 (by decide)).trans (by decide +kernel)) rfl (by decide +kernel) (by decide +kernel) ?_
  rw [rl_r]
  have ok5b : gw_ok (rl_S ((116, 6, 6, 128) :: (116, 5, 5, 127) :: (116, 4, 4, 126) :: (116, 3, 3, 121) :: (121, 0, 3, 122) :: (116, 1, 1, 117) :: (117, 0, 2, 118) :: L0) d S0) (d + 129) := gw_ok_rl ok5a (by omega) (by omega)
  refine fw_aload_n (i := 0) C0 l5 (by decide +kernel) ?_
  refine fw_bipush (n0 := 7) C0 (by decide +kernel) ?_
  refine gw_newa (N := d + 129) (K := 7) C0 ok5b.1 (ok5b.2 _ (Nat.le_refl _)) ((hkd 129 (by decide)).trans (by decide +kernel)) (by decide) (by decide) (by decide) (lk_chk_in (pl := 21080) (by decide +kernel)) (by omega) (by decide +kernel) (fun q => gw_up (fun ad6 h6 => ?_))
  have ok6a : gw_ok (rl_S ((116, 6, 6, 128) :: (116, 5, 5, 127) :: (116, 4, 4, 126) :: (116, 3, 3, 121) :: (121, 0, 3, 122) :: (116, 1, 1, 117) :: (117, 0, 2, 118) :: L0) d S0) (d + 130) := gw_ok_1 ok5b
  rw [← h6 (d + 116) (by omega)]
  have l6 : ((0 : Nat), Value.ref (ad6 (d + 116))) ∈ lv_args 0 [.ref (ad6 (d + 116))] := List.mem_cons_self
  refine gw_putr (oc := 9) (idx := 30) (k := d + 116) (v := d + 129) (q := (30, 9, 7, 21231)) C0 hnm rfl rfl (by omega) ((hkd 116 (by decide)).trans (by decide +kernel)) rfl (by decide +kernel) (by decide +kernel) ?_
  rw [rl_r]
  have ok6b : gw_ok (rl_S ((116, 7, 7, 129) :: (116, 6, 6, 128) :: (116, 5, 5, 127) :: (116, 4, 4, 126) :: (116, 3, 3, 121) :: (121, 0, 3, 122) :: (116, 1, 1, 117) :: (117, 0, 2, 118) :: L0) d S0) (d + 130) := gw_ok_rl ok6a (by omega) (by omega)
  refine fw_aload_n (i := 0) C0 l6 (by decide +kernel) ?_
  refine fw_bipush (n0 := 7) C0 (by decide +kernel) ?_
  refine gw_newa (N := d + 130) (K := 7) C0 ok6b.1 (ok6b.2 _ (Nat.le_refl _)) ((hkd 130 (by decide)).trans (by decide +kernel)) (by decide) (by decide) (by decide) (lk_chk_in (pl := 21080) (by decide +kernel)) (by omega) (by decide +kernel) (fun q => gw_up (fun ad7 h7 => ?_))
  have ok7a : gw_ok (rl_S ((116, 7, 7, 129) :: (116, 6, 6, 128) :: (116, 5, 5, 127) :: (116, 4, 4, 126) :: (116, 3, 3, 121) :: (121, 0, 3, 122) :: (116, 1, 1, 117) :: (117, 0, 2, 118) :: L0) d S0) (d + 131) := gw_ok_1 ok6b
  rw [← h7 (d + 116) (by omega)]
  have l7 : ((0 : Nat), Value.ref (ad7 (d + 116))) ∈ lv_args 0 [.ref (ad7 (d + 116))] := List.mem_cons_self
  refine gw_putr (oc := 9) (idx := 33) (k := d + 116) (v := d + 130) (q := (33, 9, 8, 21232)) C0 hnm rfl rfl (by omega) ((hkd 116 (by decide)).trans (by decide +kernel)) rfl (by decide +kernel) (by decide +kernel) ?_
  rw [rl_r]
  have ok7b : gw_ok (rl_S ((116, 8, 8, 130) :: (116, 7, 7, 129) :: (116, 6, 6, 128) :: (116, 5, 5, 127) :: (116, 4, 4, 126) :: (116, 3, 3, 121) :: (121, 0, 3, 122) :: (116, 1, 1, 117) :: (117, 0, 2, 118) :: L0) d S0) (d + 131) := gw_ok_rl ok7a (by omega) (by omega)
  refine fw_aload_n (i := 0) C0 l7 (by decide +kernel) ?_
  refine fw_bipush (n0 := 7) C0 (by decide +kernel) ?_
  refine gw_newa (N := d + 131) (K := 7) C0 ok7b.1 (ok7b.2 _ (Nat.le_refl _)) ((hkd 131 (by decide)).trans (by decide +kernel)) (by decide) (by decide) (by decide) (lk_chk_in (pl := 21080) (by decide +kernel)) (by omega) (by decide +kernel) (fun q => gw_up (fun ad8 h8 => ?_))
  have ok8a : gw_ok (rl_S ((116, 8, 8, 130) :: (116, 7, 7, 129) :: (116, 6, 6, 128) :: (116, 5, 5, 127) :: (116, 4, 4, 126) :: (116, 3, 3, 121) :: (121, 0, 3, 122) :: (116, 1, 1, 117) :: (117, 0, 2, 118) :: L0) d S0) (d + 132) := gw_ok_1 ok7b
  rw [← h8 (d + 116) (by omega)]
  have l8 : ((0 : Nat), Value.ref (ad8 (d + 116))) ∈ lv_args 0 [.ref (ad8 (d + 116))] := List.mem_cons_self
  refine gw_putr (oc := 9) (idx := 36) (k := d + 116) (v := d + 131) (q := (36, 9, 9, 21233)) C0 hnm rfl rfl (by omega) ((hkd 116 (by decide)).trans (by decide +kernel)) rfl (by decide +kernel) (by decide +kernel) ?_
  rw [rl_r]
  have ok8b : gw_ok (rl_S ((116, 9, 9, 131) :: (116, 8, 8, 130) :: (116, 7, 7, 129) :: (116, 6, 6, 128) :: (116, 5, 5, 127) :: (116, 4, 4, 126) :: (116, 3, 3, 121) :: (121, 0, 3, 122) :: (116, 1, 1, 117) :: (117, 0, 2, 118) :: L0) d S0) (d + 132) := gw_ok_rl ok8a (by omega) (by omega)
  refine fw_aload_n (i := 0) C0 l8 (by decide +kernel) ?_
  refine fw_bipush (n0 := 12) C0 (by decide +kernel) ?_
  refine gw_newa (N := d + 132) (K := 12) C0 ok8b.1 (ok8b.2 _ (Nat.le_refl _)) ((hkd 132 (by decide)).trans (by decide +kernel)) (by decide) (by decide) (by decide) (lk_chk_in (pl := 21080) (by decide +kernel)) (by omega) (by decide +kernel) (fun q => gw_up (fun ad9 h9 => ?_))
  have ok9a : gw_ok (rl_S ((116, 9, 9, 131) :: (116, 8, 8, 130) :: (116, 7, 7, 129) :: (116, 6, 6, 128) :: (116, 5, 5, 127) :: (116, 4, 4, 126) :: (116, 3, 3, 121) :: (121, 0, 3, 122) :: (116, 1, 1, 117) :: (117, 0, 2, 118) :: L0) d S0) (d + 133) := gw_ok_1 ok8b
  rw [← h9 (d + 116) (by omega)]
  have l9 : ((0 : Nat), Value.ref (ad9 (d + 116))) ∈ lv_args 0 [.ref (ad9 (d + 116))] := List.mem_cons_self
  refine gw_putr (oc := 9) (idx := 39) (k := d + 116) (v := d + 132) (q := (39, 9, 10, 21234)) C0 hnm rfl rfl (by omega) ((hkd 116 (by decide)).trans (by decide +kernel)) rfl (by decide +kernel) (by decide +kernel) ?_
  rw [rl_r]
  have ok9b : gw_ok (rl_S ((116, 10, 10, 132) :: (116, 9, 9, 131) :: (116, 8, 8, 130) :: (116, 7, 7, 129) :: (116, 6, 6, 128) :: (116, 5, 5, 127) :: (116, 4, 4, 126) :: (116, 3, 3, 121) :: (121, 0, 3, 122) :: (116, 1, 1, 117) :: (117, 0, 2, 118) :: L0) d S0) (d + 133) := gw_ok_rl ok9a (by omega) (by omega)
  refine fw_aload_n (i := 0) C0 l9 (by decide +kernel) ?_
  refine fw_bipush (n0 := 12) C0 (by decide +kernel) ?_
  refine gw_newa (N := d + 133) (K := 12) C0 ok9b.1 (ok9b.2 _ (Nat.le_refl _)) ((hkd 133 (by decide)).trans (by decide +kernel)) (by decide) (by decide) (by decide) (lk_chk_in (pl := 21080) (by decide +kernel)) (by omega) (by decide +kernel) (fun q => gw_up (fun ad10 h10 => ?_))
  have ok10a : gw_ok (rl_S ((116, 10, 10, 132) :: (116, 9, 9, 131) :: (116, 8, 8, 130) :: (116, 7, 7, 129) :: (116, 6, 6, 128) :: (116, 5, 5, 127) :: (116, 4, 4, 126) :: (116, 3, 3, 121) :: (121, 0, 3, 122) :: (116, 1, 1, 117) :: (117, 0, 2, 118) :: L0) d S0) (d + 134) := gw_ok_1 ok9b
  rw [← h10 (d + 116) (by omega)]
  have l10 : ((0 : Nat), Value.ref (ad10 (d + 116))) ∈ lv_args 0 [.ref (ad10 (d + 116))] := List.mem_cons_self
  refine gw_putr (oc := 9) (idx := 42) (k := d + 116) (v := d + 133) (q := (42, 9, 11, 21235)) C0 hnm rfl rfl (by omega) ((hkd 116 (by decide)).trans (by decide +kernel)) rfl (by decide +kernel) (by decide +kernel) ?_
  rw [rl_r]
  have ok10b : gw_ok (rl_S ((116, 11, 11, 133) :: (116, 10, 10, 132) :: (116, 9, 9, 131) :: (116, 8, 8, 130) :: (116, 7, 7, 129) :: (116, 6, 6, 128) :: (116, 5, 5, 127) :: (116, 4, 4, 126) :: (116, 3, 3, 121) :: (121, 0, 3, 122) :: (116, 1, 1, 117) :: (117, 0, 2, 118) :: L0) d S0) (d + 134) := gw_ok_rl ok10a (by omega) (by omega)
  refine fw_aload_n (i := 0) C0 l10 (by decide +kernel) ?_
  refine fw_bipush (n0 := 12) C0 (by decide +kernel) ?_
  refine gw_newa (N := d + 134) (K := 12) C0 ok10b.1 (ok10b.2 _ (Nat.le_refl _)) ((hkd 134 (by decide)).trans (by decide +kernel)) (by decide) (by decide) (by decide) (lk_chk_in (pl := 21080) (by decide +kernel)) (by omega) (by decide +kernel) (fun q => gw_up (fun ad11 h11 => ?_))
  have ok11a : gw_ok (rl_S ((116, 11, 11, 133) :: (116, 10, 10, 132) :: (116, 9, 9, 131) :: (116, 8, 8, 130) :: (116, 7, 7, 129) :: (116, 6, 6, 128) :: (116, 5, 5, 127) :: (116, 4, 4, 126) :: (116, 3, 3, 121) :: (121, 0, 3, 122) :: (116, 1, 1, 117) :: (117, 0, 2, 118) :: L0) d S0) (d + 135) := gw_ok_1 ok10b
  rw [← h11 (d + 116) (by omega)]
  have l11 : ((0 : Nat), Value.ref (ad11 (d + 116))) ∈ lv_args 0 [.ref (ad11 (d + 116))] := List.mem_cons_self
  refine gw_putr (oc := 9) (idx := 45) (k := d + 116) (v := d + 134) (q := (45, 9, 12, 21237)) C0 hnm rfl rfl (by omega) ((hkd 116 (by decide)).trans (by decide +kernel)) rfl (by decide +kernel) (by decide +kernel) ?_
  rw [rl_r]
  have ok11b : gw_ok (rl_S ((116, 12, 12, 134) :: (116, 11, 11, 133) :: (116, 10, 10, 132) :: (116, 9, 9, 131) :: (116, 8, 8, 130) :: (116, 7, 7, 129) :: (116, 6, 6, 128) :: (116, 5, 5, 127) :: (116, 4, 4, 126) :: (116, 3, 3, 121) :: (121, 0, 3, 122) :: (116, 1, 1, 117) :: (117, 0, 2, 118) :: L0) d S0) (d + 135) := gw_ok_rl ok11a (by omega) (by omega)
  refine fw_aload_n (i := 0) C0 l11 (by decide +kernel) ?_
  refine fw_bipush (n0 := 12) C0 (by decide +kernel) ?_
  refine gw_newa (N := d + 135) (K := 12) C0 ok11b.1 (ok11b.2 _ (Nat.le_refl _)) ((hkd 135 (by decide)).trans (by decide +kernel)) (by decide) (by decide) (by decide) (lk_chk_in (pl := 21080) (by decide +kernel)) (by omega) (by decide +kernel) (fun q => gw_up (fun ad12 h12 => ?_))
  have ok12a : gw_ok (rl_S ((116, 12, 12, 134) :: (116, 11, 11, 133) :: (116, 10, 10, 132) :: (116, 9, 9, 131) :: (116, 8, 8, 130) :: (116, 7, 7, 129) :: (116, 6, 6, 128) :: (116, 5, 5, 127) :: (116, 4, 4, 126) :: (116, 3, 3, 121) :: (121, 0, 3, 122) :: (116, 1, 1, 117) :: (117, 0, 2, 118) :: L0) d S0) (d + 136) := gw_ok_1 ok11b
  rw [← h12 (d + 116) (by omega)]
  have l12 : ((0 : Nat), Value.ref (ad12 (d + 116))) ∈ lv_args 0 [.ref (ad12 (d + 116))] := List.mem_cons_self
  refine gw_putr (oc := 9) (idx := 48) (k := d + 116) (v := d + 135) (q := (48, 9, 13, 21238)) C0 hnm rfl rfl (by omega) ((hkd 116 (by decide)).trans (by decide +kernel)) rfl (by decide +kernel) (by decide +kernel) ?_
  rw [rl_r]
  have ok12b : gw_ok (rl_S ((116, 13, 13, 135) :: (116, 12, 12, 134) :: (116, 11, 11, 133) :: (116, 10, 10, 132) :: (116, 9, 9, 131) :: (116, 8, 8, 130) :: (116, 7, 7, 129) :: (116, 6, 6, 128) :: (116, 5, 5, 127) :: (116, 4, 4, 126) :: (116, 3, 3, 121) :: (121, 0, 3, 122) :: (116, 1, 1, 117) :: (117, 0, 2, 118) :: L0) d S0) (d + 136) := gw_ok_rl ok12a (by omega) (by omega)
  refine fw_aload_n (i := 0) C0 l12 (by decide +kernel) ?_
  refine fw_bipush (n0 := 17) C0 (by decide +kernel) ?_
  refine gw_newa (N := d + 136) (K := 17) C0 ok12b.1 (ok12b.2 _ (Nat.le_refl _)) ((hkd 136 (by decide)).trans (by decide +kernel)) (by decide) (by decide) (by decide) (lk_chk_in (pl := 21080) (by decide +kernel)) (by omega) (by decide +kernel) (fun q => gw_up (fun ad13 h13 => ?_))
  have ok13a : gw_ok (rl_S ((116, 13, 13, 135) :: (116, 12, 12, 134) :: (116, 11, 11, 133) :: (116, 10, 10, 132) :: (116, 9, 9, 131) :: (116, 8, 8, 130) :: (116, 7, 7, 129) :: (116, 6, 6, 128) :: (116, 5, 5, 127) :: (116, 4, 4, 126) :: (116, 3, 3, 121) :: (121, 0, 3, 122) :: (116, 1, 1, 117) :: (117, 0, 2, 118) :: L0) d S0) (d + 137) := gw_ok_1 ok12b
  rw [← h13 (d + 116) (by omega)]
  have l13 : ((0 : Nat), Value.ref (ad13 (d + 116))) ∈ lv_args 0 [.ref (ad13 (d + 116))] := List.mem_cons_self
  refine gw_putr (oc := 9) (idx := 51) (k := d + 116) (v := d + 136) (q := (51, 9, 14, 21239)) C0 hnm rfl rfl (by omega) ((hkd 116 (by decide)).trans (by decide +kernel)) rfl (by decide +kernel) (by decide +kernel) ?_
  rw [rl_r]
  have ok13b : gw_ok (rl_S ((116, 14, 14, 136) :: (116, 13, 13, 135) :: (116, 12, 12, 134) :: (116, 11, 11, 133) :: (116, 10, 10, 132) :: (116, 9, 9, 131) :: (116, 8, 8, 130) :: (116, 7, 7, 129) :: (116, 6, 6, 128) :: (116, 5, 5, 127) :: (116, 4, 4, 126) :: (116, 3, 3, 121) :: (121, 0, 3, 122) :: (116, 1, 1, 117) :: (117, 0, 2, 118) :: L0) d S0) (d + 137) := gw_ok_rl ok13a (by omega) (by omega)
  refine fw_aload_n (i := 0) C0 l13 (by decide +kernel) ?_
  refine fw_iconst (n0 := 2) C0 (by decide +kernel) ?_
  refine fw_bipush (n0 := 17) C0 (by decide +kernel) ?_
  refine gw_mna (index := 11) (N := d + 137) (k := 2) (w := 17) C0 hAO.1 ok13b.1 ok13b.2 ((hkd 137 (by decide)).trans (by decide +kernel)) (fun i hi => (show kd (d + 137 + 1 + i) = _ by rw [show d + 137 + 1 + i = d + (137 + 1 + i) by omega]; exact (hkd (137 + 1 + i) (by omega)).trans (wd_kd_span (a := 138) (c := 139) (by decide +kernel) (by omega) (by omega)))) (by decide) (by decide) (by decide) (lk_chk_in (pl := 21208) (by decide +kernel)) (lk_chk_in (pl := 21080) (by decide +kernel)) (by omega) (by decide +kernel) (fun q r => gw_upm (fun ad14 h14 => ?_))
  rw [rl_rows (by decide)]
  have ok14a : gw_ok (rl_S ((137, 0, 1, 138) :: (116, 14, 14, 136) :: (116, 13, 13, 135) :: (116, 12, 12, 134) :: (116, 11, 11, 133) :: (116, 10, 10, 132) :: (116, 9, 9, 131) :: (116, 8, 8, 130) :: (116, 7, 7, 129) :: (116, 6, 6, 128) :: (116, 5, 5, 127) :: (116, 4, 4, 126) :: (116, 3, 3, 121) :: (121, 0, 3, 122) :: (116, 1, 1, 117) :: (117, 0, 2, 118) :: L0) d S0) (d + 140) := gw_ok_rlm (n := 2) ok13b (by decide)
  rw [← h14 (d + 116) (by omega)]
  have l14 : ((0 : Nat), Value.ref (ad14 (d + 116))) ∈ lv_args 0 [.ref (ad14 (d + 116))] := List.mem_cons_self
  refine gw_putr (oc := 9) (idx := 54) (k := d + 116) (v := d + 137) (q := (54, 9, 15, 22000)) C0 hnm rfl rfl (by omega) ((hkd 116 (by decide)).trans (by decide +kernel)) rfl (by decide +kernel) (by decide +kernel) ?_
  rw [rl_r]
  have ok14b : gw_ok (rl_S ((116, 15, 15, 137) :: (137, 0, 1, 138) :: (116, 14, 14, 136) :: (116, 13, 13, 135) :: (116, 12, 12, 134) :: (116, 11, 11, 133) :: (116, 10, 10, 132) :: (116, 9, 9, 131) :: (116, 8, 8, 130) :: (116, 7, 7, 129) :: (116, 6, 6, 128) :: (116, 5, 5, 127) :: (116, 4, 4, 126) :: (116, 3, 3, 121) :: (121, 0, 3, 122) :: (116, 1, 1, 117) :: (117, 0, 2, 118) :: L0) d S0) (d + 140) := gw_ok_rl ok14a (by omega) (by omega)
  refine fw_aload_n (i := 0) C0 l14 (by decide +kernel) ?_
  refine fw_iconst (n0 := 5) C0 (by decide +kernel) ?_
  refine fw_bipush (n0 := 12) C0 (by decide +kernel) ?_
  refine gw_mna (index := 11) (N := d + 140) (k := 5) (w := 12) C0 hAO.1 ok14b.1 ok14b.2 ((hkd 140 (by decide)).trans (by decide +kernel)) (fun i hi => (show kd (d + 140 + 1 + i) = _ by rw [show d + 140 + 1 + i = d + (140 + 1 + i) by omega]; exact (hkd (140 + 1 + i) (by omega)).trans (wd_kd_span (a := 141) (c := 145) (by decide +kernel) (by omega) (by omega)))) (by decide) (by decide) (by decide) (lk_chk_in (pl := 21208) (by decide +kernel)) (lk_chk_in (pl := 21080) (by decide +kernel)) (by omega) (by decide +kernel) (fun q r => gw_upm (fun ad15 h15 => ?_))
  rw [rl_rows (by decide)]
  have ok15a : gw_ok (rl_S ((140, 0, 4, 141) :: (116, 15, 15, 137) :: (137, 0, 1, 138) :: (116, 14, 14, 136) :: (116, 13, 13, 135) :: (116, 12, 12, 134) :: (116, 11, 11, 133) :: (116, 10, 10, 132) :: (116, 9, 9, 131) :: (116, 8, 8, 130) :: (116, 7, 7, 129) :: (116, 6, 6, 128) :: (116, 5, 5, 127) :: (116, 4, 4, 126) :: (116, 3, 3, 121) :: (121, 0, 3, 122) :: (116, 1, 1, 117) :: (117, 0, 2, 118) :: L0) d S0) (d + 146) := gw_ok_rlm (n := 5) ok14b (by decide)
  rw [← h15 (d + 116) (by omega)]
  have l15 : ((0 : Nat), Value.ref (ad15 (d + 116))) ∈ lv_args 0 [.ref (ad15 (d + 116))] := List.mem_cons_self
  refine gw_putr (oc := 9) (idx := 57) (k := d + 116) (v := d + 140) (q := (57, 9, 16, 22001)) C0 hnm rfl rfl (by omega) ((hkd 116 (by decide)).trans (by decide +kernel)) rfl (by decide +kernel) (by decide +kernel) ?_
  rw [rl_r]
  have ok15b : gw_ok (rl_S ((116, 16, 16, 140) :: (140, 0, 4, 141) :: (116, 15, 15, 137) :: (137, 0, 1, 138) :: (116, 14, 14, 136) :: (116, 13, 13, 135) :: (116, 12, 12, 134) :: (116, 11, 11, 133) :: (116, 10, 10, 132) :: (116, 9, 9, 131) :: (116, 8, 8, 130) :: (116, 7, 7, 129) :: (116, 6, 6, 128) :: (116, 5, 5, 127) :: (116, 4, 4, 126) :: (116, 3, 3, 121) :: (121, 0, 3, 122) :: (116, 1, 1, 117) :: (117, 0, 2, 118) :: L0) d S0) (d + 146) := gw_ok_rl ok15a (by omega) (by omega)
  refine fw_aload_n (i := 0) C0 l15 (by decide +kernel) ?_
  refine fw_bipush (n0 := 10) C0 (by decide +kernel) ?_
  refine gw_newa (N := d + 146) (K := 10) C0 ok15b.1 (ok15b.2 _ (Nat.le_refl _)) ((hkd 146 (by decide)).trans (by decide +kernel)) (by decide) (by decide) (by decide) (lk_chk_in (pl := 21080) (by decide +kernel)) (by omega) (by decide +kernel) (fun q => gw_up (fun ad16 h16 => ?_))
  have ok16a : gw_ok (rl_S ((116, 16, 16, 140) :: (140, 0, 4, 141) :: (116, 15, 15, 137) :: (137, 0, 1, 138) :: (116, 14, 14, 136) :: (116, 13, 13, 135) :: (116, 12, 12, 134) :: (116, 11, 11, 133) :: (116, 10, 10, 132) :: (116, 9, 9, 131) :: (116, 8, 8, 130) :: (116, 7, 7, 129) :: (116, 6, 6, 128) :: (116, 5, 5, 127) :: (116, 4, 4, 126) :: (116, 3, 3, 121) :: (121, 0, 3, 122) :: (116, 1, 1, 117) :: (117, 0, 2, 118) :: L0) d S0) (d + 147) := gw_ok_1 ok15b
  rw [← h16 (d + 116) (by omega)]
  have l16 : ((0 : Nat), Value.ref (ad16 (d + 116))) ∈ lv_args 0 [.ref (ad16 (d + 116))] := List.mem_cons_self
  refine gw_putr (oc := 9) (idx := 60) (k := d + 116) (v := d + 146) (q := (60, 9, 17, 22003)) C0 hnm rfl rfl (by omega) ((hkd 116 (by decide)).trans (by decide +kernel)) rfl (by decide +kernel) (by decide +kernel) ?_
  rw [rl_r]
  have ok16b : gw_ok (rl_S ((116, 17, 17, 146) :: (116, 16, 16, 140) :: (140, 0, 4, 141) :: (116, 15, 15, 137) :: (137, 0, 1, 138) :: (116, 14, 14, 136) :: (116, 13, 13, 135) :: (116, 12, 12, 134) :: (116, 11, 11, 133) :: (116, 10, 10, 132) :: (116, 9, 9, 131) :: (116, 8, 8, 130) :: (116, 7, 7, 129) :: (116, 6, 6, 128) :: (116, 5, 5, 127) :: (116, 4, 4, 126) :: (116, 3, 3, 121) :: (121, 0, 3, 122) :: (116, 1, 1, 117) :: (117, 0, 2, 118) :: L0) d S0) (d + 147) := gw_ok_rl ok16a (by omega) (by omega)
  have hk := kk ad16 (fun k hk => by rw [h16 k (by omega), h15 k (by omega), h14 k (by omega), h13 k (by omega), h12 k (by omega), h11 k (by omega), h10 k (by omega), h9 k (by omega), h8 k (by omega), h7 k (by omega), h6 k (by omega), h5 k (by omega), h4 k (by omega), h3 k (by omega), h2 k (by omega), h1 k (by omega)]) ok16b
  exact hk
theorem ctorA_Heat (C0 : fw_C p s m args meth c D tc A "UtilityWorks$Heat" prog_6_method_1_code nL) (hnm : meth.name = "<init>") (hAO : gw_AO s) (hkd : ∀ k, 1 ≤ k ∧ k ≤ 803 → kd (d + k) = wd_kd k) (hok : gw_ok (rl_S L0 d S0) (d + 148)) (hfr : 1 ≤ R.frames) (hlo : 60 ≤ R.locals) (hroom : n + 39 ≤ R.cells ∧ 6 * (n + 39) ≤ R.slots)
    (kk : ∀ ad1 : Nat → Nat, (∀ k, k < d + 148 → ad1 k = ad k) → gw_ok (rl_S ((147, 14, 14, 164) :: (147, 13, 13, 163) :: (147, 12, 12, 162) :: (147, 11, 11, 159) :: (159, 0, 1, 160) :: (147, 10, 10, 158) :: (147, 9, 9, 157) :: (147, 8, 8, 156) :: (147, 7, 7, 155) :: (147, 6, 6, 154) :: (147, 5, 5, 153) :: (147, 3, 3, 152) :: (147, 2, 2, 151) :: (147, 1, 1, 148) :: (148, 0, 1, 149) :: L0) d S0) (d + 165) → fw_W p l e R s m args below meth c Q D tc ad1 kd (d + 165) nL A 109 (lv_args 0 [.ref (ad1 (d + 147))]) [] (rl_S ((147, 14, 14, 164) :: (147, 13, 13, 163) :: (147, 12, 12, 162) :: (147, 11, 11, 159) :: (159, 0, 1, 160) :: (147, 10, 10, 158) :: (147, 9, 9, 157) :: (147, 8, 8, 156) :: (147, 7, 7, 155) :: (147, 6, 6, 154) :: (147, 5, 5, 153) :: (147, 3, 3, 152) :: (147, 2, 2, 151) :: (147, 1, 1, 148) :: (148, 0, 1, 149) :: L0) d S0) (n + (1 + 2 + (2 + 2 * 5) / 6 + 1) + (1 + 10 / 6) + (1 + 5 / 6) + (1 + 2 / 6) + (1 + 2 / 6) + (1 + 2 / 6) + (1 + 12 / 6) + (1 + 12 / 6) + (1 + 12 / 6) + (1 + 2 + (2 + 2 * 17) / 6 + 1) + (1 + 17 / 6) + (1 + 17 / 6) + (1 + 10 / 6))) :
    fw_W p l e R s m args below meth c Q D tc ad kd (d + 148) nL A 0 (lv_args 0 [.ref (ad (d + 147))]) [] (rl_S L0 d S0) n := by
  have l0 : ((0 : Nat), Value.ref (ad (d + 147))) ∈ lv_args 0 [.ref (ad (d + 147))] := List.mem_cons_self
  have ok0 : gw_ok (rl_S L0 d S0) (d + 148) := hok
  refine fw_aload_n (i := 0) C0 l0 (by decide +kernel) ?_
  refine gw_obj (idx := 3) C0 (lk_chk_in (pl := 22048) (by decide +kernel)) (lk_chk_in (pl := 21030) (by decide +kernel)) (lk_chk_in (pl := 21031) (by decide +kernel)) hfr (by omega) (by decide) (by decide +kernel) ?_
  refine fw_aload_n (i := 0) C0 l0 (by decide +kernel) ?_
  refine fw_iconst (n0 := 2) C0 (by decide +kernel) ?_
  refine fw_iconst (n0 := 5) C0 (by decide +kernel) ?_
  refine gw_mna (index := 11) (N := d + 148) (k := 2) (w := 5) C0 hAO.1 ok0.1 ok0.2 ((hkd 148 (by decide)).trans (by decide +kernel)) (fun i hi => (show kd (d + 148 + 1 + i) = _ by rw [show d + 148 + 1 + i = d + (148 + 1 + i) by omega]; exact (hkd (148 + 1 + i) (by omega)).trans (wd_kd_span (a := 149) (c := 150) (by decide +kernel) (by omega) (by omega)))) (by decide) (by decide) (by decide) (lk_chk_in (pl := 22049) (by decide +kernel)) (lk_chk_in (pl := 21080) (by decide +kernel)) (by omega) (by decide +kernel) (fun q r => gw_upm (fun ad1 h1 => ?_))
  rw [rl_rows (by decide)]
  have ok1a : gw_ok (rl_S ((148, 0, 1, 149) :: L0) d S0) (d + 151) := gw_ok_rlm (n := 2) ok0 (by decide)
  rw [← h1 (d + 147) (by omega)]
  have l1 : ((0 : Nat), Value.ref (ad1 (d + 147))) ∈ lv_args 0 [.ref (ad1 (d + 147))] := List.mem_cons_self
  refine gw_putr (oc := 4) (idx := 13) (k := d + 147) (v := d + 148) (q := (13, 4, 1, 22061)) C0 hnm rfl rfl (by omega) ((hkd 147 (by decide)).trans (by decide +kernel)) rfl (by decide +kernel) (by decide +kernel) ?_
  rw [rl_r]
  have ok1b : gw_ok (rl_S ((147, 1, 1, 148) :: (148, 0, 1, 149) :: L0) d S0) (d + 151) := gw_ok_rl ok1a (by omega) (by omega)
  refine fw_aload_n (i := 0) C0 l1 (by decide +kernel) ?_
  refine fw_bipush (n0 := 10) C0 (by decide +kernel) ?_
  refine gw_newa (N := d + 151) (K := 10) C0 ok1b.1 (ok1b.2 _ (Nat.le_refl _)) ((hkd 151 (by decide)).trans (by decide +kernel)) (by decide) (by decide) (by decide) (lk_chk_in (pl := 21080) (by decide +kernel)) (by omega) (by decide +kernel) (fun q => gw_up (fun ad2 h2 => ?_))
  have ok2a : gw_ok (rl_S ((147, 1, 1, 148) :: (148, 0, 1, 149) :: L0) d S0) (d + 152) := gw_ok_1 ok1b
  rw [← h2 (d + 147) (by omega)]
  have l2 : ((0 : Nat), Value.ref (ad2 (d + 147))) ∈ lv_args 0 [.ref (ad2 (d + 147))] := List.mem_cons_self
  refine gw_putr (oc := 4) (idx := 16) (k := d + 147) (v := d + 151) (q := (16, 4, 2, 22065)) C0 hnm rfl rfl (by omega) ((hkd 147 (by decide)).trans (by decide +kernel)) rfl (by decide +kernel) (by decide +kernel) ?_
  rw [rl_r]
  have ok2b : gw_ok (rl_S ((147, 2, 2, 151) :: (147, 1, 1, 148) :: (148, 0, 1, 149) :: L0) d S0) (d + 152) := gw_ok_rl ok2a (by omega) (by omega)
  refine fw_aload_n (i := 0) C0 l2 (by decide +kernel) ?_
  refine fw_iconst (n0 := 5) C0 (by decide +kernel) ?_
  refine gw_newl (N := d + 152) (K := 5) C0 ok2b.1 (ok2b.2 _ (Nat.le_refl _)) ((hkd 152 (by decide)).trans (by decide +kernel)) (by decide) (by decide) (by decide) (lk_chk_in (pl := 21201) (by decide +kernel)) (by omega) (by decide +kernel) (fun q => gw_up (fun ad3 h3 => ?_))
  have ok3a : gw_ok (rl_S ((147, 2, 2, 151) :: (147, 1, 1, 148) :: (148, 0, 1, 149) :: L0) d S0) (d + 153) := gw_ok_1 ok2b
  rw [← h3 (d + 147) (by omega)]
  have l3 : ((0 : Nat), Value.ref (ad3 (d + 147))) ∈ lv_args 0 [.ref (ad3 (d + 147))] := List.mem_cons_self
  refine gw_putr (oc := 4) (idx := 20) (k := d + 147) (v := d + 152) (q := (20, 4, 3, 22067)) C0 hnm rfl rfl (by omega) ((hkd 147 (by decide)).trans (by decide +kernel)) rfl (by decide +kernel) (by decide +kernel) ?_
  rw [rl_r]
  have ok3b : gw_ok (rl_S ((147, 3, 3, 152) :: (147, 2, 2, 151) :: (147, 1, 1, 148) :: (148, 0, 1, 149) :: L0) d S0) (d + 153) := gw_ok_rl ok3a (by omega) (by omega)
  refine fw_aload_n (i := 0) C0 l3 (by decide +kernel) ?_
  refine fw_iconst (n0 := 2) C0 (by decide +kernel) ?_
  refine gw_newa (N := d + 153) (K := 2) C0 ok3b.1 (ok3b.2 _ (Nat.le_refl _)) ((hkd 153 (by decide)).trans (by decide +kernel)) (by decide) (by decide) (by decide) (lk_chk_in (pl := 21080) (by decide +kernel)) (by omega) (by decide +kernel) (fun q => gw_up (fun ad4 h4 => ?_))
  have ok4a : gw_ok (rl_S ((147, 3, 3, 152) :: (147, 2, 2, 151) :: (147, 1, 1, 148) :: (148, 0, 1, 149) :: L0) d S0) (d + 154) := gw_ok_1 ok3b
  rw [← h4 (d + 147) (by omega)]
  have l4 : ((0 : Nat), Value.ref (ad4 (d + 147))) ∈ lv_args 0 [.ref (ad4 (d + 147))] := List.mem_cons_self
  refine gw_putr (oc := 4) (idx := 24) (k := d + 147) (v := d + 153) (q := (24, 4, 5, 22070)) C0 hnm rfl rfl (by omega) ((hkd 147 (by decide)).trans (by decide +kernel)) rfl (by decide +kernel) (by decide +kernel) ?_
  rw [rl_r]
  have ok4b : gw_ok (rl_S ((147, 5, 5, 153) :: (147, 3, 3, 152) :: (147, 2, 2, 151) :: (147, 1, 1, 148) :: (148, 0, 1, 149) :: L0) d S0) (d + 154) := gw_ok_rl ok4a (by omega) (by omega)
  refine fw_aload_n (i := 0) C0 l4 (by decide +kernel) ?_
  refine fw_iconst (n0 := 2) C0 (by decide +kernel) ?_
  refine gw_newa (N := d + 154) (K := 2) C0 ok4b.1 (ok4b.2 _ (Nat.le_refl _)) ((hkd 154 (by decide)).trans (by decide +kernel)) (by decide) (by decide) (by decide) (lk_chk_in (pl := 21080) (by decide +kernel)) (by omega) (by decide +kernel) (fun q => gw_up (fun ad5 h5 => ?_))
  have ok5a : gw_ok (rl_S ((147, 5, 5, 153) :: (147, 3, 3, 152) :: (147, 2, 2, 151) :: (147, 1, 1, 148) :: (148, 0, 1, 149) :: L0) d S0) (d + 155) := gw_ok_1 ok4b
  rw [← h5 (d + 147) (by omega)]
  have l5 : ((0 : Nat), Value.ref (ad5 (d + 147))) ∈ lv_args 0 [.ref (ad5 (d + 147))] := List.mem_cons_self
  refine gw_putr (oc := 4) (idx := 27) (k := d + 147) (v := d + 154) (q := (27, 4, 6, 22072)) C0 hnm rfl rfl (by omega) ((hkd 147 (by decide)).trans (by decide +kernel)) rfl (by decide +kernel) (by decide +kernel) ?_
  rw [rl_r]
  have ok5b : gw_ok (rl_S ((147, 6, 6, 154) :: (147, 5, 5, 153) :: (147, 3, 3, 152) :: (147, 2, 2, 151) :: (147, 1, 1, 148) :: (148, 0, 1, 149) :: L0) d S0) (d + 155) := gw_ok_rl ok5a (by omega) (by omega)
  refine fw_aload_n (i := 0) C0 l5 (by decide +kernel) ?_
  refine fw_iconst (n0 := 2) C0 (by decide +kernel) ?_
  refine gw_newa (N := d + 155) (K := 2) C0 ok5b.1 (ok5b.2 _ (Nat.le_refl _)) ((hkd 155 (by decide)).trans (by decide +kernel)) (by decide) (by decide) (by decide) (lk_chk_in (pl := 21080) (by decide +kernel)) (by omega) (by decide +kernel) (fun q => gw_up (fun ad6 h6 => ?_))
  have ok6a : gw_ok (rl_S ((147, 6, 6, 154) :: (147, 5, 5, 153) :: (147, 3, 3, 152) :: (147, 2, 2, 151) :: (147, 1, 1, 148) :: (148, 0, 1, 149) :: L0) d S0) (d + 156) := gw_ok_1 ok5b
  rw [← h6 (d + 147) (by omega)]
  have l6 : ((0 : Nat), Value.ref (ad6 (d + 147))) ∈ lv_args 0 [.ref (ad6 (d + 147))] := List.mem_cons_self
  refine gw_putr (oc := 4) (idx := 30) (k := d + 147) (v := d + 155) (q := (30, 4, 7, 22073)) C0 hnm rfl rfl (by omega) ((hkd 147 (by decide)).trans (by decide +kernel)) rfl (by decide +kernel) (by decide +kernel) ?_
  rw [rl_r]
  have ok6b : gw_ok (rl_S ((147, 7, 7, 155) :: (147, 6, 6, 154) :: (147, 5, 5, 153) :: (147, 3, 3, 152) :: (147, 2, 2, 151) :: (147, 1, 1, 148) :: (148, 0, 1, 149) :: L0) d S0) (d + 156) := gw_ok_rl ok6a (by omega) (by omega)
  refine fw_aload_n (i := 0) C0 l6 (by decide +kernel) ?_
  refine fw_bipush (n0 := 12) C0 (by decide +kernel) ?_
  refine gw_newa (N := d + 156) (K := 12) C0 ok6b.1 (ok6b.2 _ (Nat.le_refl _)) ((hkd 156 (by decide)).trans (by decide +kernel)) (by decide) (by decide) (by decide) (lk_chk_in (pl := 21080) (by decide +kernel)) (by omega) (by decide +kernel) (fun q => gw_up (fun ad7 h7 => ?_))
  have ok7a : gw_ok (rl_S ((147, 7, 7, 155) :: (147, 6, 6, 154) :: (147, 5, 5, 153) :: (147, 3, 3, 152) :: (147, 2, 2, 151) :: (147, 1, 1, 148) :: (148, 0, 1, 149) :: L0) d S0) (d + 157) := gw_ok_1 ok6b
  rw [← h7 (d + 147) (by omega)]
  have l7 : ((0 : Nat), Value.ref (ad7 (d + 147))) ∈ lv_args 0 [.ref (ad7 (d + 147))] := List.mem_cons_self
  refine gw_putr (oc := 4) (idx := 33) (k := d + 147) (v := d + 156) (q := (33, 4, 8, 22074)) C0 hnm rfl rfl (by omega) ((hkd 147 (by decide)).trans (by decide +kernel)) rfl (by decide +kernel) (by decide +kernel) ?_
  rw [rl_r]
  have ok7b : gw_ok (rl_S ((147, 8, 8, 156) :: (147, 7, 7, 155) :: (147, 6, 6, 154) :: (147, 5, 5, 153) :: (147, 3, 3, 152) :: (147, 2, 2, 151) :: (147, 1, 1, 148) :: (148, 0, 1, 149) :: L0) d S0) (d + 157) := gw_ok_rl ok7a (by omega) (by omega)
  refine fw_aload_n (i := 0) C0 l7 (by decide +kernel) ?_
  refine fw_bipush (n0 := 12) C0 (by decide +kernel) ?_
  refine gw_newa (N := d + 157) (K := 12) C0 ok7b.1 (ok7b.2 _ (Nat.le_refl _)) ((hkd 157 (by decide)).trans (by decide +kernel)) (by decide) (by decide) (by decide) (lk_chk_in (pl := 21080) (by decide +kernel)) (by omega) (by decide +kernel) (fun q => gw_up (fun ad8 h8 => ?_))
  have ok8a : gw_ok (rl_S ((147, 8, 8, 156) :: (147, 7, 7, 155) :: (147, 6, 6, 154) :: (147, 5, 5, 153) :: (147, 3, 3, 152) :: (147, 2, 2, 151) :: (147, 1, 1, 148) :: (148, 0, 1, 149) :: L0) d S0) (d + 158) := gw_ok_1 ok7b
  rw [← h8 (d + 147) (by omega)]
  have l8 : ((0 : Nat), Value.ref (ad8 (d + 147))) ∈ lv_args 0 [.ref (ad8 (d + 147))] := List.mem_cons_self
  refine gw_putr (oc := 4) (idx := 36) (k := d + 147) (v := d + 157) (q := (36, 4, 9, 22075)) C0 hnm rfl rfl (by omega) ((hkd 147 (by decide)).trans (by decide +kernel)) rfl (by decide +kernel) (by decide +kernel) ?_
  rw [rl_r]
  have ok8b : gw_ok (rl_S ((147, 9, 9, 157) :: (147, 8, 8, 156) :: (147, 7, 7, 155) :: (147, 6, 6, 154) :: (147, 5, 5, 153) :: (147, 3, 3, 152) :: (147, 2, 2, 151) :: (147, 1, 1, 148) :: (148, 0, 1, 149) :: L0) d S0) (d + 158) := gw_ok_rl ok8a (by omega) (by omega)
  refine fw_aload_n (i := 0) C0 l8 (by decide +kernel) ?_
  refine fw_bipush (n0 := 12) C0 (by decide +kernel) ?_
  refine gw_newa (N := d + 158) (K := 12) C0 ok8b.1 (ok8b.2 _ (Nat.le_refl _)) ((hkd 158 (by decide)).trans (by decide +kernel)) (by decide) (by decide) (by decide) (lk_chk_in (pl := 21080) (by decide +kernel)) (by omega) (by decide +kernel) (fun q => gw_up (fun ad9 h9 => ?_))
  have ok9a : gw_ok (rl_S ((147, 9, 9, 157) :: (147, 8, 8, 156) :: (147, 7, 7, 155) :: (147, 6, 6, 154) :: (147, 5, 5, 153) :: (147, 3, 3, 152) :: (147, 2, 2, 151) :: (147, 1, 1, 148) :: (148, 0, 1, 149) :: L0) d S0) (d + 159) := gw_ok_1 ok8b
  rw [← h9 (d + 147) (by omega)]
  have l9 : ((0 : Nat), Value.ref (ad9 (d + 147))) ∈ lv_args 0 [.ref (ad9 (d + 147))] := List.mem_cons_self
  refine gw_putr (oc := 4) (idx := 39) (k := d + 147) (v := d + 158) (q := (39, 4, 10, 22077)) C0 hnm rfl rfl (by omega) ((hkd 147 (by decide)).trans (by decide +kernel)) rfl (by decide +kernel) (by decide +kernel) ?_
  rw [rl_r]
  have ok9b : gw_ok (rl_S ((147, 10, 10, 158) :: (147, 9, 9, 157) :: (147, 8, 8, 156) :: (147, 7, 7, 155) :: (147, 6, 6, 154) :: (147, 5, 5, 153) :: (147, 3, 3, 152) :: (147, 2, 2, 151) :: (147, 1, 1, 148) :: (148, 0, 1, 149) :: L0) d S0) (d + 159) := gw_ok_rl ok9a (by omega) (by omega)
  refine fw_aload_n (i := 0) C0 l9 (by decide +kernel) ?_
  refine fw_iconst (n0 := 2) C0 (by decide +kernel) ?_
  refine fw_bipush (n0 := 17) C0 (by decide +kernel) ?_
  refine gw_mna (index := 11) (N := d + 159) (k := 2) (w := 17) C0 hAO.1 ok9b.1 ok9b.2 ((hkd 159 (by decide)).trans (by decide +kernel)) (fun i hi => (show kd (d + 159 + 1 + i) = _ by rw [show d + 159 + 1 + i = d + (159 + 1 + i) by omega]; exact (hkd (159 + 1 + i) (by omega)).trans (wd_kd_span (a := 160) (c := 161) (by decide +kernel) (by omega) (by omega)))) (by decide) (by decide) (by decide) (lk_chk_in (pl := 22049) (by decide +kernel)) (lk_chk_in (pl := 21080) (by decide +kernel)) (by omega) (by decide +kernel) (fun q r => gw_upm (fun ad10 h10 => ?_))
  rw [rl_rows (by decide)]
  have ok10a : gw_ok (rl_S ((159, 0, 1, 160) :: (147, 10, 10, 158) :: (147, 9, 9, 157) :: (147, 8, 8, 156) :: (147, 7, 7, 155) :: (147, 6, 6, 154) :: (147, 5, 5, 153) :: (147, 3, 3, 152) :: (147, 2, 2, 151) :: (147, 1, 1, 148) :: (148, 0, 1, 149) :: L0) d S0) (d + 162) := gw_ok_rlm (n := 2) ok9b (by decide)
  rw [← h10 (d + 147) (by omega)]
  have l10 : ((0 : Nat), Value.ref (ad10 (d + 147))) ∈ lv_args 0 [.ref (ad10 (d + 147))] := List.mem_cons_self
  refine gw_putr (oc := 4) (idx := 42) (k := d + 147) (v := d + 159) (q := (42, 4, 11, 22078)) C0 hnm rfl rfl (by omega) ((hkd 147 (by decide)).trans (by decide +kernel)) rfl (by decide +kernel) (by decide +kernel) ?_
  rw [rl_r]
  have ok10b : gw_ok (rl_S ((147, 11, 11, 159) :: (159, 0, 1, 160) :: (147, 10, 10, 158) :: (147, 9, 9, 157) :: (147, 8, 8, 156) :: (147, 7, 7, 155) :: (147, 6, 6, 154) :: (147, 5, 5, 153) :: (147, 3, 3, 152) :: (147, 2, 2, 151) :: (147, 1, 1, 148) :: (148, 0, 1, 149) :: L0) d S0) (d + 162) := gw_ok_rl ok10a (by omega) (by omega)
  refine fw_aload_n (i := 0) C0 l10 (by decide +kernel) ?_
  refine fw_bipush (n0 := 17) C0 (by decide +kernel) ?_
  refine gw_newa (N := d + 162) (K := 17) C0 ok10b.1 (ok10b.2 _ (Nat.le_refl _)) ((hkd 162 (by decide)).trans (by decide +kernel)) (by decide) (by decide) (by decide) (lk_chk_in (pl := 21080) (by decide +kernel)) (by omega) (by decide +kernel) (fun q => gw_up (fun ad11 h11 => ?_))
  have ok11a : gw_ok (rl_S ((147, 11, 11, 159) :: (159, 0, 1, 160) :: (147, 10, 10, 158) :: (147, 9, 9, 157) :: (147, 8, 8, 156) :: (147, 7, 7, 155) :: (147, 6, 6, 154) :: (147, 5, 5, 153) :: (147, 3, 3, 152) :: (147, 2, 2, 151) :: (147, 1, 1, 148) :: (148, 0, 1, 149) :: L0) d S0) (d + 163) := gw_ok_1 ok10b
  rw [← h11 (d + 147) (by omega)]
  have l11 : ((0 : Nat), Value.ref (ad11 (d + 147))) ∈ lv_args 0 [.ref (ad11 (d + 147))] := List.mem_cons_self
  refine gw_putr (oc := 4) (idx := 45) (k := d + 147) (v := d + 162) (q := (45, 4, 12, 22079)) C0 hnm rfl rfl (by omega) ((hkd 147 (by decide)).trans (by decide +kernel)) rfl (by decide +kernel) (by decide +kernel) ?_
  rw [rl_r]
  have ok11b : gw_ok (rl_S ((147, 12, 12, 162) :: (147, 11, 11, 159) :: (159, 0, 1, 160) :: (147, 10, 10, 158) :: (147, 9, 9, 157) :: (147, 8, 8, 156) :: (147, 7, 7, 155) :: (147, 6, 6, 154) :: (147, 5, 5, 153) :: (147, 3, 3, 152) :: (147, 2, 2, 151) :: (147, 1, 1, 148) :: (148, 0, 1, 149) :: L0) d S0) (d + 163) := gw_ok_rl ok11a (by omega) (by omega)
  refine fw_aload_n (i := 0) C0 l11 (by decide +kernel) ?_
  refine fw_bipush (n0 := 17) C0 (by decide +kernel) ?_
  refine gw_newa (N := d + 163) (K := 17) C0 ok11b.1 (ok11b.2 _ (Nat.le_refl _)) ((hkd 163 (by decide)).trans (by decide +kernel)) (by decide) (by decide) (by decide) (lk_chk_in (pl := 21080) (by decide +kernel)) (by omega) (by decide +kernel) (fun q => gw_up (fun ad12 h12 => ?_))
  have ok12a : gw_ok (rl_S ((147, 12, 12, 162) :: (147, 11, 11, 159) :: (159, 0, 1, 160) :: (147, 10, 10, 158) :: (147, 9, 9, 157) :: (147, 8, 8, 156) :: (147, 7, 7, 155) :: (147, 6, 6, 154) :: (147, 5, 5, 153) :: (147, 3, 3, 152) :: (147, 2, 2, 151) :: (147, 1, 1, 148) :: (148, 0, 1, 149) :: L0) d S0) (d + 164) := gw_ok_1 ok11b
  rw [← h12 (d + 147) (by omega)]
  have l12 : ((0 : Nat), Value.ref (ad12 (d + 147))) ∈ lv_args 0 [.ref (ad12 (d + 147))] := List.mem_cons_self
  refine gw_putr (oc := 4) (idx := 48) (k := d + 147) (v := d + 163) (q := (48, 4, 13, 22080)) C0 hnm rfl rfl (by omega) ((hkd 147 (by decide)).trans (by decide +kernel)) rfl (by decide +kernel) (by decide +kernel) ?_
  rw [rl_r]
  have ok12b : gw_ok (rl_S ((147, 13, 13, 163) :: (147, 12, 12, 162) :: (147, 11, 11, 159) :: (159, 0, 1, 160) :: (147, 10, 10, 158) :: (147, 9, 9, 157) :: (147, 8, 8, 156) :: (147, 7, 7, 155) :: (147, 6, 6, 154) :: (147, 5, 5, 153) :: (147, 3, 3, 152) :: (147, 2, 2, 151) :: (147, 1, 1, 148) :: (148, 0, 1, 149) :: L0) d S0) (d + 164) := gw_ok_rl ok12a (by omega) (by omega)
  refine fw_aload_n (i := 0) C0 l12 (by decide +kernel) ?_
  refine fw_bipush (n0 := 10) C0 (by decide +kernel) ?_
  refine gw_newa (N := d + 164) (K := 10) C0 ok12b.1 (ok12b.2 _ (Nat.le_refl _)) ((hkd 164 (by decide)).trans (by decide +kernel)) (by decide) (by decide) (by decide) (lk_chk_in (pl := 21080) (by decide +kernel)) (by omega) (by decide +kernel) (fun q => gw_up (fun ad13 h13 => ?_))
  have ok13a : gw_ok (rl_S ((147, 13, 13, 163) :: (147, 12, 12, 162) :: (147, 11, 11, 159) :: (159, 0, 1, 160) :: (147, 10, 10, 158) :: (147, 9, 9, 157) :: (147, 8, 8, 156) :: (147, 7, 7, 155) :: (147, 6, 6, 154) :: (147, 5, 5, 153) :: (147, 3, 3, 152) :: (147, 2, 2, 151) :: (147, 1, 1, 148) :: (148, 0, 1, 149) :: L0) d S0) (d + 165) := gw_ok_1 ok12b
  rw [← h13 (d + 147) (by omega)]
  have l13 : ((0 : Nat), Value.ref (ad13 (d + 147))) ∈ lv_args 0 [.ref (ad13 (d + 147))] := List.mem_cons_self
  refine gw_putr (oc := 4) (idx := 51) (k := d + 147) (v := d + 164) (q := (51, 4, 14, 22081)) C0 hnm rfl rfl (by omega) ((hkd 147 (by decide)).trans (by decide +kernel)) rfl (by decide +kernel) (by decide +kernel) ?_
  rw [rl_r]
  have ok13b : gw_ok (rl_S ((147, 14, 14, 164) :: (147, 13, 13, 163) :: (147, 12, 12, 162) :: (147, 11, 11, 159) :: (159, 0, 1, 160) :: (147, 10, 10, 158) :: (147, 9, 9, 157) :: (147, 8, 8, 156) :: (147, 7, 7, 155) :: (147, 6, 6, 154) :: (147, 5, 5, 153) :: (147, 3, 3, 152) :: (147, 2, 2, 151) :: (147, 1, 1, 148) :: (148, 0, 1, 149) :: L0) d S0) (d + 165) := gw_ok_rl ok13a (by omega) (by omega)
  have hk := kk ad13 (fun k hk => by rw [h13 k (by omega), h12 k (by omega), h11 k (by omega), h10 k (by omega), h9 k (by omega), h8 k (by omega), h7 k (by omega), h6 k (by omega), h5 k (by omega), h4 k (by omega), h3 k (by omega), h2 k (by omega), h1 k (by omega)]) ok13b
  exact hk
theorem ctorA_Customers (C0 : fw_C p s m args meth c D tc A "UtilityWorks$Customers" prog_4_method_1_code nL) (hnm : meth.name = "<init>") (hAO : gw_AO s) (hkd : ∀ k, 1 ≤ k ∧ k ≤ 803 → kd (d + k) = wd_kd k) (hok : gw_ok (rl_S L0 d S0) (d + 166)) (hfr : 1 ≤ R.frames) (hlo : 60 ≤ R.locals) (hroom : n + 156 ≤ R.cells ∧ 6 * (n + 156) ≤ R.slots)
    (kk : ∀ ad1 : Nat → Nat, (∀ k, k < d + 166 → ad1 k = ad k) → gw_ok (rl_S ((165, 3, 3, 178) :: (178, 0, 29, 179) :: (165, 2, 2, 177) :: (165, 1, 1, 166) :: (166, 0, 9, 167) :: L0) d S0) (d + 209) → fw_W p l e R s m args below meth c Q D tc ad1 kd (d + 209) nL A 36 (lv_args 0 [.ref (ad1 (d + 165))]) [] (rl_S ((165, 3, 3, 178) :: (178, 0, 29, 179) :: (165, 2, 2, 177) :: (165, 1, 1, 166) :: (166, 0, 9, 167) :: L0) d S0) (n + (1 + 10 + (10 + 10 * 14) / 6 + 1) + (1 + 10 / 6) + (1 + 30 + (30 + 30 * 16) / 6 + 1))) :
    fw_W p l e R s m args below meth c Q D tc ad kd (d + 166) nL A 0 (lv_args 0 [.ref (ad (d + 165))]) [] (rl_S L0 d S0) n := by
  have l0 : ((0 : Nat), Value.ref (ad (d + 165))) ∈ lv_args 0 [.ref (ad (d + 165))] := List.mem_cons_self
  have ok0 : gw_ok (rl_S L0 d S0) (d + 166) := hok
  refine fw_aload_n (i := 0) C0 l0 (by decide +kernel) ?_
  refine gw_obj (idx := 3) C0 (lk_chk_in (pl := 22120) (by decide +kernel)) (lk_chk_in (pl := 21030) (by decide +kernel)) (lk_chk_in (pl := 21031) (by decide +kernel)) hfr (by omega) (by decide) (by decide +kernel) ?_
  refine fw_aload_n (i := 0) C0 l0 (by decide +kernel) ?_
  refine fw_bipush (n0 := 10) C0 (by decide +kernel) ?_
  refine fw_bipush (n0 := 14) C0 (by decide +kernel) ?_
  refine gw_mna (index := 9) (N := d + 166) (k := 10) (w := 14) C0 hAO.1 ok0.1 ok0.2 ((hkd 166 (by decide)).trans (by decide +kernel)) (fun i hi => (show kd (d + 166 + 1 + i) = _ by rw [show d + 166 + 1 + i = d + (166 + 1 + i) by omega]; exact (hkd (166 + 1 + i) (by omega)).trans (wd_kd_span (a := 167) (c := 176) (by decide +kernel) (by omega) (by omega)))) (by decide) (by decide) (by decide) (lk_chk_in (pl := 22121) (by decide +kernel)) (lk_chk_in (pl := 21080) (by decide +kernel)) (by omega) (by decide +kernel) (fun q r => gw_upm (fun ad1 h1 => ?_))
  rw [rl_rows (by decide)]
  have ok1a : gw_ok (rl_S ((166, 0, 9, 167) :: L0) d S0) (d + 177) := gw_ok_rlm (n := 10) ok0 (by decide)
  rw [← h1 (d + 165) (by omega)]
  have l1 : ((0 : Nat), Value.ref (ad1 (d + 165))) ∈ lv_args 0 [.ref (ad1 (d + 165))] := List.mem_cons_self
  refine gw_putr (oc := 2) (idx := 11) (k := d + 165) (v := d + 166) (q := (11, 2, 1, 22136)) C0 hnm rfl rfl (by omega) ((hkd 165 (by decide)).trans (by decide +kernel)) rfl (by decide +kernel) (by decide +kernel) ?_
  rw [rl_r]
  have ok1b : gw_ok (rl_S ((165, 1, 1, 166) :: (166, 0, 9, 167) :: L0) d S0) (d + 177) := gw_ok_rl ok1a (by omega) (by omega)
  refine fw_aload_n (i := 0) C0 l1 (by decide +kernel) ?_
  refine fw_bipush (n0 := 10) C0 (by decide +kernel) ?_
  refine gw_newa (N := d + 177) (K := 10) C0 ok1b.1 (ok1b.2 _ (Nat.le_refl _)) ((hkd 177 (by decide)).trans (by decide +kernel)) (by decide) (by decide) (by decide) (lk_chk_in (pl := 21080) (by decide +kernel)) (by omega) (by decide +kernel) (fun q => gw_up (fun ad2 h2 => ?_))
  have ok2a : gw_ok (rl_S ((165, 1, 1, 166) :: (166, 0, 9, 167) :: L0) d S0) (d + 178) := gw_ok_1 ok1b
  rw [← h2 (d + 165) (by omega)]
  have l2 : ((0 : Nat), Value.ref (ad2 (d + 165))) ∈ lv_args 0 [.ref (ad2 (d + 165))] := List.mem_cons_self
  refine gw_putr (oc := 2) (idx := 16) (k := d + 165) (v := d + 177) (q := (16, 2, 2, 22143)) C0 hnm rfl rfl (by omega) ((hkd 165 (by decide)).trans (by decide +kernel)) rfl (by decide +kernel) (by decide +kernel) ?_
  rw [rl_r]
  have ok2b : gw_ok (rl_S ((165, 2, 2, 177) :: (165, 1, 1, 166) :: (166, 0, 9, 167) :: L0) d S0) (d + 178) := gw_ok_rl ok2a (by omega) (by omega)
  refine fw_aload_n (i := 0) C0 l2 (by decide +kernel) ?_
  refine fw_bipush (n0 := 30) C0 (by decide +kernel) ?_
  refine fw_bipush (n0 := 16) C0 (by decide +kernel) ?_
  refine gw_mna (index := 9) (N := d + 178) (k := 30) (w := 16) C0 hAO.1 ok2b.1 ok2b.2 ((hkd 178 (by decide)).trans (by decide +kernel)) (fun i hi => (show kd (d + 178 + 1 + i) = _ by rw [show d + 178 + 1 + i = d + (178 + 1 + i) by omega]; exact (hkd (178 + 1 + i) (by omega)).trans (wd_kd_span (a := 179) (c := 208) (by decide +kernel) (by omega) (by omega)))) (by decide) (by decide) (by decide) (lk_chk_in (pl := 22121) (by decide +kernel)) (lk_chk_in (pl := 21080) (by decide +kernel)) (by omega) (by decide +kernel) (fun q r => gw_upm (fun ad3 h3 => ?_))
  rw [rl_rows (by decide)]
  have ok3a : gw_ok (rl_S ((178, 0, 29, 179) :: (165, 2, 2, 177) :: (165, 1, 1, 166) :: (166, 0, 9, 167) :: L0) d S0) (d + 209) := gw_ok_rlm (n := 30) ok2b (by decide)
  rw [← h3 (d + 165) (by omega)]
  have l3 : ((0 : Nat), Value.ref (ad3 (d + 165))) ∈ lv_args 0 [.ref (ad3 (d + 165))] := List.mem_cons_self
  refine gw_putr (oc := 2) (idx := 20) (k := d + 165) (v := d + 178) (q := (20, 2, 3, 22147)) C0 hnm rfl rfl (by omega) ((hkd 165 (by decide)).trans (by decide +kernel)) rfl (by decide +kernel) (by decide +kernel) ?_
  rw [rl_r]
  have ok3b : gw_ok (rl_S ((165, 3, 3, 178) :: (178, 0, 29, 179) :: (165, 2, 2, 177) :: (165, 1, 1, 166) :: (166, 0, 9, 167) :: L0) d S0) (d + 209) := gw_ok_rl ok3a (by omega) (by omega)
  have hk := kk ad3 (fun k hk => by rw [h3 k (by omega), h2 k (by omega), h1 k (by omega)]) ok3b
  exact hk
theorem ctorA_Books (C0 : fw_C p s m args meth c D tc A "UtilityWorks$Books" prog_2_method_1_code nL) (hnm : meth.name = "<init>") (hAO : gw_AO s) (hkd : ∀ k, 1 ≤ k ∧ k ≤ 803 → kd (d + k) = wd_kd k) (hok : gw_ok (rl_S L0 d S0) (d + 210)) (hfr : 1 ≤ R.frames) (hlo : 60 ≤ R.locals) (hroom : n + 901 ≤ R.cells ∧ 6 * (n + 901) ≤ R.slots)
    (kk : ∀ ad1 : Nat → Nat, (∀ k, k < d + 210 → ad1 k = ad k) → gw_ok (rl_S ((209, 10, 10, 561) :: (561, 0, 9, 562) :: (209, 9, 9, 560) :: (209, 8, 8, 559) :: (209, 7, 7, 558) :: (209, 6, 6, 557) :: (209, 5, 5, 556) :: (209, 4, 4, 215) :: (215, 0, 339, 216) :: (209, 1, 1, 214) :: (209, 0, 0, 210) :: (210, 0, 2, 211) :: L0) d S0) (d + 572) → fw_W p l e R s m args below meth c Q D tc ad1 kd (d + 572) nL A 86 (lv_args 0 [.ref (ad1 (d + 209))]) [] (rl_S ((209, 10, 10, 561) :: (561, 0, 9, 562) :: (209, 9, 9, 560) :: (209, 8, 8, 559) :: (209, 7, 7, 558) :: (209, 6, 6, 557) :: (209, 5, 5, 556) :: (209, 4, 4, 215) :: (215, 0, 339, 216) :: (209, 1, 1, 214) :: (209, 0, 0, 210) :: (210, 0, 2, 211) :: L0) d S0) (n + (1 + 3 + (3 + 3 * 4) / 6 + 1) + (1 + 7 / 6) + (1 + 340 + (340 + 340 * 8) / 6 + 1) + (1 + 10 / 6) + (1 + 30 / 6) + (1 + 30 / 6) + (1 + 10 / 6) + (1 + 10 / 6) + (1 + 10 + (10 + 10 * 5) / 6 + 1))) :
    fw_W p l e R s m args below meth c Q D tc ad kd (d + 210) nL A 0 (lv_args 0 [.ref (ad (d + 209))]) [] (rl_S L0 d S0) n := by
  have l0 : ((0 : Nat), Value.ref (ad (d + 209))) ∈ lv_args 0 [.ref (ad (d + 209))] := List.mem_cons_self
  have ok0 : gw_ok (rl_S L0 d S0) (d + 210) := hok
  refine fw_aload_n (i := 0) C0 l0 (by decide +kernel) ?_
  refine gw_obj (idx := 5) C0 (lk_chk_in (pl := 22162) (by decide +kernel)) (lk_chk_in (pl := 21030) (by decide +kernel)) (lk_chk_in (pl := 21031) (by decide +kernel)) hfr (by omega) (by decide) (by decide +kernel) ?_
  refine fw_aload_n (i := 0) C0 l0 (by decide +kernel) ?_
  refine fw_iconst (n0 := 3) C0 (by decide +kernel) ?_
  refine fw_iconst (n0 := 4) C0 (by decide +kernel) ?_
  refine gw_mna (index := 11) (N := d + 210) (k := 3) (w := 4) C0 hAO.1 ok0.1 ok0.2 ((hkd 210 (by decide)).trans (by decide +kernel)) (fun i hi => (show kd (d + 210 + 1 + i) = _ by rw [show d + 210 + 1 + i = d + (210 + 1 + i) by omega]; exact (hkd (210 + 1 + i) (by omega)).trans (wd_kd_span (a := 211) (c := 213) (by decide +kernel) (by omega) (by omega)))) (by decide) (by decide) (by decide) (lk_chk_in (pl := 22163) (by decide +kernel)) (lk_chk_in (pl := 21080) (by decide +kernel)) (by omega) (by decide +kernel) (fun q r => gw_upm (fun ad1 h1 => ?_))
  rw [rl_rows (by decide)]
  have ok1a : gw_ok (rl_S ((210, 0, 2, 211) :: L0) d S0) (d + 214) := gw_ok_rlm (n := 3) ok0 (by decide)
  rw [← h1 (d + 209) (by omega)]
  have l1 : ((0 : Nat), Value.ref (ad1 (d + 209))) ∈ lv_args 0 [.ref (ad1 (d + 209))] := List.mem_cons_self
  refine gw_putr (oc := 0) (idx := 13) (k := d + 209) (v := d + 210) (q := (13, 0, 0, 22171)) C0 hnm rfl rfl (by omega) ((hkd 209 (by decide)).trans (by decide +kernel)) rfl (by decide +kernel) (by decide +kernel) ?_
  rw [rl_r]
  have ok1b : gw_ok (rl_S ((209, 0, 0, 210) :: (210, 0, 2, 211) :: L0) d S0) (d + 214) := gw_ok_rl ok1a (by omega) (by omega)
  refine fw_aload_n (i := 0) C0 l1 (by decide +kernel) ?_
  refine fw_bipush (n0 := 7) C0 (by decide +kernel) ?_
  refine gw_newl (N := d + 214) (K := 7) C0 ok1b.1 (ok1b.2 _ (Nat.le_refl _)) ((hkd 214 (by decide)).trans (by decide +kernel)) (by decide) (by decide) (by decide) (lk_chk_in (pl := 21201) (by decide +kernel)) (by omega) (by decide +kernel) (fun q => gw_up (fun ad2 h2 => ?_))
  have ok2a : gw_ok (rl_S ((209, 0, 0, 210) :: (210, 0, 2, 211) :: L0) d S0) (d + 215) := gw_ok_1 ok1b
  rw [← h2 (d + 209) (by omega)]
  have l2 : ((0 : Nat), Value.ref (ad2 (d + 209))) ∈ lv_args 0 [.ref (ad2 (d + 209))] := List.mem_cons_self
  refine gw_putr (oc := 0) (idx := 16) (k := d + 209) (v := d + 214) (q := (16, 0, 1, 22173)) C0 hnm rfl rfl (by omega) ((hkd 209 (by decide)).trans (by decide +kernel)) rfl (by decide +kernel) (by decide +kernel) ?_
  rw [rl_r]
  have ok2b : gw_ok (rl_S ((209, 1, 1, 214) :: (209, 0, 0, 210) :: (210, 0, 2, 211) :: L0) d S0) (d + 215) := gw_ok_rl ok2a (by omega) (by omega)
  refine fw_aload_n (i := 0) C0 l2 (by decide +kernel) ?_
  refine fw_sipush (n0 := 340) C0 (by decide +kernel) ?_
  refine fw_bipush (n0 := 8) C0 (by decide +kernel) ?_
  refine gw_mnl (index := 20) (N := d + 215) (k := 340) (w := 8) C0 hAO.2.1 ok2b.1 ok2b.2 ((hkd 215 (by decide)).trans (by decide +kernel)) (fun i hi => (show kd (d + 215 + 1 + i) = _ by rw [show d + 215 + 1 + i = d + (215 + 1 + i) by omega]; exact (hkd (215 + 1 + i) (by omega)).trans (wd_kd_span (a := 216) (c := 555) (by decide +kernel) (by omega) (by omega)))) (by decide) (by decide) (by decide) (lk_chk_in (pl := 22164) (by decide +kernel)) (lk_chk_in (pl := 21201) (by decide +kernel)) (by omega) (by decide +kernel) (fun q r => gw_upm (fun ad3 h3 => ?_))
  rw [rl_rows (by decide)]
  have ok3a : gw_ok (rl_S ((215, 0, 339, 216) :: (209, 1, 1, 214) :: (209, 0, 0, 210) :: (210, 0, 2, 211) :: L0) d S0) (d + 556) := gw_ok_rlm (n := 340) ok2b (by decide)
  rw [← h3 (d + 209) (by omega)]
  have l3 : ((0 : Nat), Value.ref (ad3 (d + 209))) ∈ lv_args 0 [.ref (ad3 (d + 209))] := List.mem_cons_self
  refine gw_putr (oc := 0) (idx := 22) (k := d + 209) (v := d + 215) (q := (22, 0, 4, 22182)) C0 hnm rfl rfl (by omega) ((hkd 209 (by decide)).trans (by decide +kernel)) rfl (by decide +kernel) (by decide +kernel) ?_
  rw [rl_r]
  have ok3b : gw_ok (rl_S ((209, 4, 4, 215) :: (215, 0, 339, 216) :: (209, 1, 1, 214) :: (209, 0, 0, 210) :: (210, 0, 2, 211) :: L0) d S0) (d + 556) := gw_ok_rl ok3a (by omega) (by omega)
  refine fw_aload_n (i := 0) C0 l3 (by decide +kernel) ?_
  refine fw_bipush (n0 := 10) C0 (by decide +kernel) ?_
  refine gw_newa (N := d + 556) (K := 10) C0 ok3b.1 (ok3b.2 _ (Nat.le_refl _)) ((hkd 556 (by decide)).trans (by decide +kernel)) (by decide) (by decide) (by decide) (lk_chk_in (pl := 21080) (by decide +kernel)) (by omega) (by decide +kernel) (fun q => gw_up (fun ad4 h4 => ?_))
  have ok4a : gw_ok (rl_S ((209, 4, 4, 215) :: (215, 0, 339, 216) :: (209, 1, 1, 214) :: (209, 0, 0, 210) :: (210, 0, 2, 211) :: L0) d S0) (d + 557) := gw_ok_1 ok3b
  rw [← h4 (d + 209) (by omega)]
  have l4 : ((0 : Nat), Value.ref (ad4 (d + 209))) ∈ lv_args 0 [.ref (ad4 (d + 209))] := List.mem_cons_self
  refine gw_putr (oc := 0) (idx := 25) (k := d + 209) (v := d + 556) (q := (25, 0, 5, 22183)) C0 hnm rfl rfl (by omega) ((hkd 209 (by decide)).trans (by decide +kernel)) rfl (by decide +kernel) (by decide +kernel) ?_
  rw [rl_r]
  have ok4b : gw_ok (rl_S ((209, 5, 5, 556) :: (209, 4, 4, 215) :: (215, 0, 339, 216) :: (209, 1, 1, 214) :: (209, 0, 0, 210) :: (210, 0, 2, 211) :: L0) d S0) (d + 557) := gw_ok_rl ok4a (by omega) (by omega)
  refine fw_aload_n (i := 0) C0 l4 (by decide +kernel) ?_
  refine fw_bipush (n0 := 30) C0 (by decide +kernel) ?_
  refine gw_newa (N := d + 557) (K := 30) C0 ok4b.1 (ok4b.2 _ (Nat.le_refl _)) ((hkd 557 (by decide)).trans (by decide +kernel)) (by decide) (by decide) (by decide) (lk_chk_in (pl := 21080) (by decide +kernel)) (by omega) (by decide +kernel) (fun q => gw_up (fun ad5 h5 => ?_))
  have ok5a : gw_ok (rl_S ((209, 5, 5, 556) :: (209, 4, 4, 215) :: (215, 0, 339, 216) :: (209, 1, 1, 214) :: (209, 0, 0, 210) :: (210, 0, 2, 211) :: L0) d S0) (d + 558) := gw_ok_1 ok4b
  rw [← h5 (d + 209) (by omega)]
  have l5 : ((0 : Nat), Value.ref (ad5 (d + 209))) ∈ lv_args 0 [.ref (ad5 (d + 209))] := List.mem_cons_self
  refine gw_putr (oc := 0) (idx := 29) (k := d + 209) (v := d + 557) (q := (29, 0, 6, 22185)) C0 hnm rfl rfl (by omega) ((hkd 209 (by decide)).trans (by decide +kernel)) rfl (by decide +kernel) (by decide +kernel) ?_
  rw [rl_r]
  have ok5b : gw_ok (rl_S ((209, 6, 6, 557) :: (209, 5, 5, 556) :: (209, 4, 4, 215) :: (215, 0, 339, 216) :: (209, 1, 1, 214) :: (209, 0, 0, 210) :: (210, 0, 2, 211) :: L0) d S0) (d + 558) := gw_ok_rl ok5a (by omega) (by omega)
  refine fw_aload_n (i := 0) C0 l5 (by decide +kernel) ?_
  refine fw_bipush (n0 := 30) C0 (by decide +kernel) ?_
  refine gw_newa (N := d + 558) (K := 30) C0 ok5b.1 (ok5b.2 _ (Nat.le_refl _)) ((hkd 558 (by decide)).trans (by decide +kernel)) (by decide) (by decide) (by decide) (lk_chk_in (pl := 21080) (by decide +kernel)) (by omega) (by decide +kernel) (fun q => gw_up (fun ad6 h6 => ?_))
  have ok6a : gw_ok (rl_S ((209, 6, 6, 557) :: (209, 5, 5, 556) :: (209, 4, 4, 215) :: (215, 0, 339, 216) :: (209, 1, 1, 214) :: (209, 0, 0, 210) :: (210, 0, 2, 211) :: L0) d S0) (d + 559) := gw_ok_1 ok5b
  rw [← h6 (d + 209) (by omega)]
  have l6 : ((0 : Nat), Value.ref (ad6 (d + 209))) ∈ lv_args 0 [.ref (ad6 (d + 209))] := List.mem_cons_self
  refine gw_putr (oc := 0) (idx := 32) (k := d + 209) (v := d + 558) (q := (32, 0, 7, 22186)) C0 hnm rfl rfl (by omega) ((hkd 209 (by decide)).trans (by decide +kernel)) rfl (by decide +kernel) (by decide +kernel) ?_
  rw [rl_r]
  have ok6b : gw_ok (rl_S ((209, 7, 7, 558) :: (209, 6, 6, 557) :: (209, 5, 5, 556) :: (209, 4, 4, 215) :: (215, 0, 339, 216) :: (209, 1, 1, 214) :: (209, 0, 0, 210) :: (210, 0, 2, 211) :: L0) d S0) (d + 559) := gw_ok_rl ok6a (by omega) (by omega)
  refine fw_aload_n (i := 0) C0 l6 (by decide +kernel) ?_
  refine fw_bipush (n0 := 10) C0 (by decide +kernel) ?_
  refine gw_newl (N := d + 559) (K := 10) C0 ok6b.1 (ok6b.2 _ (Nat.le_refl _)) ((hkd 559 (by decide)).trans (by decide +kernel)) (by decide) (by decide) (by decide) (lk_chk_in (pl := 21201) (by decide +kernel)) (by omega) (by decide +kernel) (fun q => gw_up (fun ad7 h7 => ?_))
  have ok7a : gw_ok (rl_S ((209, 7, 7, 558) :: (209, 6, 6, 557) :: (209, 5, 5, 556) :: (209, 4, 4, 215) :: (215, 0, 339, 216) :: (209, 1, 1, 214) :: (209, 0, 0, 210) :: (210, 0, 2, 211) :: L0) d S0) (d + 560) := gw_ok_1 ok6b
  rw [← h7 (d + 209) (by omega)]
  have l7 : ((0 : Nat), Value.ref (ad7 (d + 209))) ∈ lv_args 0 [.ref (ad7 (d + 209))] := List.mem_cons_self
  refine gw_putr (oc := 0) (idx := 35) (k := d + 209) (v := d + 559) (q := (35, 0, 8, 22187)) C0 hnm rfl rfl (by omega) ((hkd 209 (by decide)).trans (by decide +kernel)) rfl (by decide +kernel) (by decide +kernel) ?_
  rw [rl_r]
  have ok7b : gw_ok (rl_S ((209, 8, 8, 559) :: (209, 7, 7, 558) :: (209, 6, 6, 557) :: (209, 5, 5, 556) :: (209, 4, 4, 215) :: (215, 0, 339, 216) :: (209, 1, 1, 214) :: (209, 0, 0, 210) :: (210, 0, 2, 211) :: L0) d S0) (d + 560) := gw_ok_rl ok7a (by omega) (by omega)
  refine fw_aload_n (i := 0) C0 l7 (by decide +kernel) ?_
  refine fw_bipush (n0 := 10) C0 (by decide +kernel) ?_
  refine gw_newz (N := d + 560) (K := 10) C0 ok7b.1 (ok7b.2 _ (Nat.le_refl _)) ((hkd 560 (by decide)).trans (by decide +kernel)) (by decide) (by decide) (by decide) (lk_chk_in (pl := 21079) (by decide +kernel)) (by omega) (by decide +kernel) (fun q => gw_up (fun ad8 h8 => ?_))
  have ok8a : gw_ok (rl_S ((209, 8, 8, 559) :: (209, 7, 7, 558) :: (209, 6, 6, 557) :: (209, 5, 5, 556) :: (209, 4, 4, 215) :: (215, 0, 339, 216) :: (209, 1, 1, 214) :: (209, 0, 0, 210) :: (210, 0, 2, 211) :: L0) d S0) (d + 561) := gw_ok_1 ok7b
  rw [← h8 (d + 209) (by omega)]
  have l8 : ((0 : Nat), Value.ref (ad8 (d + 209))) ∈ lv_args 0 [.ref (ad8 (d + 209))] := List.mem_cons_self
  refine gw_putr (oc := 0) (idx := 38) (k := d + 209) (v := d + 560) (q := (38, 0, 9, 22188)) C0 hnm rfl rfl (by omega) ((hkd 209 (by decide)).trans (by decide +kernel)) rfl (by decide +kernel) (by decide +kernel) ?_
  rw [rl_r]
  have ok8b : gw_ok (rl_S ((209, 9, 9, 560) :: (209, 8, 8, 559) :: (209, 7, 7, 558) :: (209, 6, 6, 557) :: (209, 5, 5, 556) :: (209, 4, 4, 215) :: (215, 0, 339, 216) :: (209, 1, 1, 214) :: (209, 0, 0, 210) :: (210, 0, 2, 211) :: L0) d S0) (d + 561) := gw_ok_rl ok8a (by omega) (by omega)
  refine fw_aload_n (i := 0) C0 l8 (by decide +kernel) ?_
  refine fw_bipush (n0 := 10) C0 (by decide +kernel) ?_
  refine fw_iconst (n0 := 5) C0 (by decide +kernel) ?_
  refine gw_mnl (index := 20) (N := d + 561) (k := 10) (w := 5) C0 hAO.2.1 ok8b.1 ok8b.2 ((hkd 561 (by decide)).trans (by decide +kernel)) (fun i hi => (show kd (d + 561 + 1 + i) = _ by rw [show d + 561 + 1 + i = d + (561 + 1 + i) by omega]; exact (hkd (561 + 1 + i) (by omega)).trans (wd_kd_span (a := 562) (c := 571) (by decide +kernel) (by omega) (by omega)))) (by decide) (by decide) (by decide) (lk_chk_in (pl := 22164) (by decide +kernel)) (lk_chk_in (pl := 21201) (by decide +kernel)) (by omega) (by decide +kernel) (fun q r => gw_upm (fun ad9 h9 => ?_))
  rw [rl_rows (by decide)]
  have ok9a : gw_ok (rl_S ((561, 0, 9, 562) :: (209, 9, 9, 560) :: (209, 8, 8, 559) :: (209, 7, 7, 558) :: (209, 6, 6, 557) :: (209, 5, 5, 556) :: (209, 4, 4, 215) :: (215, 0, 339, 216) :: (209, 1, 1, 214) :: (209, 0, 0, 210) :: (210, 0, 2, 211) :: L0) d S0) (d + 572) := gw_ok_rlm (n := 10) ok8b (by decide)
  rw [← h9 (d + 209) (by omega)]
  have l9 : ((0 : Nat), Value.ref (ad9 (d + 209))) ∈ lv_args 0 [.ref (ad9 (d + 209))] := List.mem_cons_self
  refine gw_putr (oc := 0) (idx := 42) (k := d + 209) (v := d + 561) (q := (42, 0, 10, 22190)) C0 hnm rfl rfl (by omega) ((hkd 209 (by decide)).trans (by decide +kernel)) rfl (by decide +kernel) (by decide +kernel) ?_
  rw [rl_r]
  have ok9b : gw_ok (rl_S ((209, 10, 10, 561) :: (561, 0, 9, 562) :: (209, 9, 9, 560) :: (209, 8, 8, 559) :: (209, 7, 7, 558) :: (209, 6, 6, 557) :: (209, 5, 5, 556) :: (209, 4, 4, 215) :: (215, 0, 339, 216) :: (209, 1, 1, 214) :: (209, 0, 0, 210) :: (210, 0, 2, 211) :: L0) d S0) (d + 572) := gw_ok_rl ok9a (by omega) (by omega)
  have hk := kk ad9 (fun k hk => by rw [h9 k (by omega), h8 k (by omega), h7 k (by omega), h6 k (by omega), h5 k (by omega), h4 k (by omega), h3 k (by omega), h2 k (by omega), h1 k (by omega)]) ok9b
  exact hk
theorem ctorA_Crews (C0 : fw_C p s m args meth c D tc A "UtilityWorks$Crews" prog_3_method_1_code nL) (hnm : meth.name = "<init>") (hAO : gw_AO s) (hkd : ∀ k, 1 ≤ k ∧ k ≤ 803 → kd (d + k) = wd_kd k) (hok : gw_ok (rl_S L0 d S0) (d + 573)) (hfr : 1 ≤ R.frames) (hlo : 60 ≤ R.locals) (hroom : n + 446 ≤ R.cells ∧ 6 * (n + 446) ≤ R.slots)
    (kk : ∀ ad1 : Nat → Nat, (∀ k, k < d + 573 → ad1 k = ad k) → gw_ok (rl_S ((572, 3, 3, 578) :: (578, 0, 199, 579) :: (572, 1, 1, 573) :: (573, 0, 3, 574) :: L0) d S0) (d + 779) → fw_W p l e R s m args below meth c Q D tc ad1 kd (d + 779) nL A 28 (lv_args 0 [.ref (ad1 (d + 572))]) [] (rl_S ((572, 3, 3, 578) :: (578, 0, 199, 579) :: (572, 1, 1, 573) :: (573, 0, 3, 574) :: L0) d S0) (n + (1 + 4 + (4 + 4 * 7) / 6 + 1) + (1 + 200 + (200 + 200 * 6) / 6 + 1))) :
    fw_W p l e R s m args below meth c Q D tc ad kd (d + 573) nL A 0 (lv_args 0 [.ref (ad (d + 572))]) [] (rl_S L0 d S0) n := by
  have l0 : ((0 : Nat), Value.ref (ad (d + 572))) ∈ lv_args 0 [.ref (ad (d + 572))] := List.mem_cons_self
  have ok0 : gw_ok (rl_S L0 d S0) (d + 573) := hok
  refine fw_aload_n (i := 0) C0 l0 (by decide +kernel) ?_
  refine gw_obj (idx := 3) C0 (lk_chk_in (pl := 22220) (by decide +kernel)) (lk_chk_in (pl := 21030) (by decide +kernel)) (lk_chk_in (pl := 21031) (by decide +kernel)) hfr (by omega) (by decide) (by decide +kernel) ?_
  refine fw_aload_n (i := 0) C0 l0 (by decide +kernel) ?_
  refine fw_iconst (n0 := 4) C0 (by decide +kernel) ?_
  refine fw_bipush (n0 := 7) C0 (by decide +kernel) ?_
  refine gw_mna (index := 11) (N := d + 573) (k := 4) (w := 7) C0 hAO.1 ok0.1 ok0.2 ((hkd 573 (by decide)).trans (by decide +kernel)) (fun i hi => (show kd (d + 573 + 1 + i) = _ by rw [show d + 573 + 1 + i = d + (573 + 1 + i) by omega]; exact (hkd (573 + 1 + i) (by omega)).trans (wd_kd_span (a := 574) (c := 577) (by decide +kernel) (by omega) (by omega)))) (by decide) (by decide) (by decide) (lk_chk_in (pl := 22221) (by decide +kernel)) (lk_chk_in (pl := 21080) (by decide +kernel)) (by omega) (by decide +kernel) (fun q r => gw_upm (fun ad1 h1 => ?_))
  rw [rl_rows (by decide)]
  have ok1a : gw_ok (rl_S ((573, 0, 3, 574) :: L0) d S0) (d + 578) := gw_ok_rlm (n := 4) ok0 (by decide)
  rw [← h1 (d + 572) (by omega)]
  have l1 : ((0 : Nat), Value.ref (ad1 (d + 572))) ∈ lv_args 0 [.ref (ad1 (d + 572))] := List.mem_cons_self
  refine gw_putr (oc := 1) (idx := 13) (k := d + 572) (v := d + 573) (q := (13, 1, 1, 22228)) C0 hnm rfl rfl (by omega) ((hkd 572 (by decide)).trans (by decide +kernel)) rfl (by decide +kernel) (by decide +kernel) ?_
  rw [rl_r]
  have ok1b : gw_ok (rl_S ((572, 1, 1, 573) :: (573, 0, 3, 574) :: L0) d S0) (d + 578) := gw_ok_rl ok1a (by omega) (by omega)
  refine fw_aload_n (i := 0) C0 l1 (by decide +kernel) ?_
  refine fw_sipush (n0 := 200) C0 (by decide +kernel) ?_
  refine fw_bipush (n0 := 6) C0 (by decide +kernel) ?_
  refine gw_mna (index := 11) (N := d + 578) (k := 200) (w := 6) C0 hAO.1 ok1b.1 ok1b.2 ((hkd 578 (by decide)).trans (by decide +kernel)) (fun i hi => (show kd (d + 578 + 1 + i) = _ by rw [show d + 578 + 1 + i = d + (578 + 1 + i) by omega]; exact (hkd (578 + 1 + i) (by omega)).trans (wd_kd_span (a := 579) (c := 778) (by decide +kernel) (by omega) (by omega)))) (by decide) (by decide) (by decide) (lk_chk_in (pl := 22221) (by decide +kernel)) (lk_chk_in (pl := 21080) (by decide +kernel)) (by omega) (by decide +kernel) (fun q r => gw_upm (fun ad2 h2 => ?_))
  rw [rl_rows (by decide)]
  have ok2a : gw_ok (rl_S ((578, 0, 199, 579) :: (572, 1, 1, 573) :: (573, 0, 3, 574) :: L0) d S0) (d + 779) := gw_ok_rlm (n := 200) ok1b (by decide)
  rw [← h2 (d + 572) (by omega)]
  have l2 : ((0 : Nat), Value.ref (ad2 (d + 572))) ∈ lv_args 0 [.ref (ad2 (d + 572))] := List.mem_cons_self
  refine gw_putr (oc := 1) (idx := 16) (k := d + 572) (v := d + 578) (q := (16, 1, 3, 22232)) C0 hnm rfl rfl (by omega) ((hkd 572 (by decide)).trans (by decide +kernel)) rfl (by decide +kernel) (by decide +kernel) ?_
  rw [rl_r]
  have ok2b : gw_ok (rl_S ((572, 3, 3, 578) :: (578, 0, 199, 579) :: (572, 1, 1, 573) :: (573, 0, 3, 574) :: L0) d S0) (d + 779) := gw_ok_rl ok2a (by omega) (by omega)
  have hk := kk ad2 (fun k hk => by rw [h2 k (by omega), h1 k (by omega)]) ok2b
  exact hk
theorem ctorA_Stores (C0 : fw_C p s m args meth c D tc A "UtilityWorks$Stores" prog_9_method_1_code nL) (hnm : meth.name = "<init>") (hAO : gw_AO s) (hkd : ∀ k, 1 ≤ k ∧ k ≤ 803 → kd (d + k) = wd_kd k) (hok : gw_ok (rl_S L0 d S0) (d + 780)) (hfr : 1 ≤ R.frames) (hlo : 60 ≤ R.locals) (hroom : n + 26 ≤ R.cells ∧ 6 * (n + 26) ≤ R.slots)
    (kk : ∀ ad1 : Nat → Nat, (∀ k, k < d + 780 → ad1 k = ad k) → gw_ok (rl_S ((779, 1, 1, 785) :: (785, 0, 7, 786) :: (779, 0, 0, 780) :: (780, 0, 3, 781) :: L0) d S0) (d + 794) → fw_W p l e R s m args below meth c Q D tc ad1 kd (d + 794) nL A 26 (lv_args 0 [.ref (ad1 (d + 779))]) [] (rl_S ((779, 1, 1, 785) :: (785, 0, 7, 786) :: (779, 0, 0, 780) :: (780, 0, 3, 781) :: L0) d S0) (n + (1 + 4 + (4 + 4 * 7) / 6 + 1) + (1 + 8 + (8 + 8 * 3) / 6 + 1))) :
    fw_W p l e R s m args below meth c Q D tc ad kd (d + 780) nL A 0 (lv_args 0 [.ref (ad (d + 779))]) [] (rl_S L0 d S0) n := by
  have l0 : ((0 : Nat), Value.ref (ad (d + 779))) ∈ lv_args 0 [.ref (ad (d + 779))] := List.mem_cons_self
  have ok0 : gw_ok (rl_S L0 d S0) (d + 780) := hok
  refine fw_aload_n (i := 0) C0 l0 (by decide +kernel) ?_
  refine gw_obj (idx := 3) C0 (lk_chk_in (pl := 23008) (by decide +kernel)) (lk_chk_in (pl := 21030) (by decide +kernel)) (lk_chk_in (pl := 21031) (by decide +kernel)) hfr (by omega) (by decide) (by decide +kernel) ?_
  refine fw_aload_n (i := 0) C0 l0 (by decide +kernel) ?_
  refine fw_iconst (n0 := 4) C0 (by decide +kernel) ?_
  refine fw_bipush (n0 := 7) C0 (by decide +kernel) ?_
  refine gw_mna (index := 11) (N := d + 780) (k := 4) (w := 7) C0 hAO.1 ok0.1 ok0.2 ((hkd 780 (by decide)).trans (by decide +kernel)) (fun i hi => (show kd (d + 780 + 1 + i) = _ by rw [show d + 780 + 1 + i = d + (780 + 1 + i) by omega]; exact (hkd (780 + 1 + i) (by omega)).trans (wd_kd_span (a := 781) (c := 784) (by decide +kernel) (by omega) (by omega)))) (by decide) (by decide) (by decide) (lk_chk_in (pl := 23009) (by decide +kernel)) (lk_chk_in (pl := 21080) (by decide +kernel)) (by omega) (by decide +kernel) (fun q r => gw_upm (fun ad1 h1 => ?_))
  rw [rl_rows (by decide)]
  have ok1a : gw_ok (rl_S ((780, 0, 3, 781) :: L0) d S0) (d + 785) := gw_ok_rlm (n := 4) ok0 (by decide)
  rw [← h1 (d + 779) (by omega)]
  have l1 : ((0 : Nat), Value.ref (ad1 (d + 779))) ∈ lv_args 0 [.ref (ad1 (d + 779))] := List.mem_cons_self
  refine gw_putr (oc := 7) (idx := 13) (k := d + 779) (v := d + 780) (q := (13, 7, 0, 23012)) C0 hnm rfl rfl (by omega) ((hkd 779 (by decide)).trans (by decide +kernel)) rfl (by decide +kernel) (by decide +kernel) ?_
  rw [rl_r]
  have ok1b : gw_ok (rl_S ((779, 0, 0, 780) :: (780, 0, 3, 781) :: L0) d S0) (d + 785) := gw_ok_rl ok1a (by omega) (by omega)
  refine fw_aload_n (i := 0) C0 l1 (by decide +kernel) ?_
  refine fw_bipush (n0 := 8) C0 (by decide +kernel) ?_
  refine fw_iconst (n0 := 3) C0 (by decide +kernel) ?_
  refine gw_mna (index := 11) (N := d + 785) (k := 8) (w := 3) C0 hAO.1 ok1b.1 ok1b.2 ((hkd 785 (by decide)).trans (by decide +kernel)) (fun i hi => (show kd (d + 785 + 1 + i) = _ by rw [show d + 785 + 1 + i = d + (785 + 1 + i) by omega]; exact (hkd (785 + 1 + i) (by omega)).trans (wd_kd_span (a := 786) (c := 793) (by decide +kernel) (by omega) (by omega)))) (by decide) (by decide) (by decide) (lk_chk_in (pl := 23009) (by decide +kernel)) (lk_chk_in (pl := 21080) (by decide +kernel)) (by omega) (by decide +kernel) (fun q r => gw_upm (fun ad2 h2 => ?_))
  rw [rl_rows (by decide)]
  have ok2a : gw_ok (rl_S ((785, 0, 7, 786) :: (779, 0, 0, 780) :: (780, 0, 3, 781) :: L0) d S0) (d + 794) := gw_ok_rlm (n := 8) ok1b (by decide)
  rw [← h2 (d + 779) (by omega)]
  have l2 : ((0 : Nat), Value.ref (ad2 (d + 779))) ∈ lv_args 0 [.ref (ad2 (d + 779))] := List.mem_cons_self
  refine gw_putr (oc := 7) (idx := 16) (k := d + 779) (v := d + 785) (q := (16, 7, 1, 23014)) C0 hnm rfl rfl (by omega) ((hkd 779 (by decide)).trans (by decide +kernel)) rfl (by decide +kernel) (by decide +kernel) ?_
  rw [rl_r]
  have ok2b : gw_ok (rl_S ((779, 1, 1, 785) :: (785, 0, 7, 786) :: (779, 0, 0, 780) :: (780, 0, 3, 781) :: L0) d S0) (d + 794) := gw_ok_rl ok2a (by omega) (by omega)
  have hk := kk ad2 (fun k hk => by rw [h2 k (by omega), h1 k (by omega)]) ok2b
  exact hk
theorem ctorA_Sky (C0 : fw_C p s m args meth c D tc A "UtilityWorks$Sky" prog_8_method_1_code nL) (hnm : meth.name = "<init>") (hAO : gw_AO s) (hkd : ∀ k, 1 ≤ k ∧ k ≤ 803 → kd (d + k) = wd_kd k) (hok : gw_ok (rl_S L0 d S0) (d + 795)) (hfr : 1 ≤ R.frames) (hlo : 60 ≤ R.locals) (hroom : n + 11 ≤ R.cells ∧ 6 * (n + 11) ≤ R.slots)
    (kk : ∀ ad1 : Nat → Nat, (∀ k, k < d + 795 → ad1 k = ad k) → gw_ok (rl_S ((794, 7, 7, 800) :: (794, 6, 6, 795) :: (795, 0, 3, 796) :: L0) d (fw_i (fw_i (fw_i S0 (d + 794) 0 ((Int8.ofInt 10).toInt32)) (d + 794) 1 (Int32.ofInt 2)) (d + 794) 4 (Int32.ofInt 1))) (d + 801) → fw_W p l e R s m args below meth c Q D tc ad1 kd (d + 801) nL A 38 (lv_args 0 [.ref (ad1 (d + 794))]) [] (rl_S ((794, 7, 7, 800) :: (794, 6, 6, 795) :: (795, 0, 3, 796) :: L0) d (fw_i (fw_i (fw_i S0 (d + 794) 0 ((Int8.ofInt 10).toInt32)) (d + 794) 1 (Int32.ofInt 2)) (d + 794) 4 (Int32.ofInt 1))) (n + (1 + 4 + (4 + 4 * 4) / 6 + 1) + (1 + 6 / 6))) :
    fw_W p l e R s m args below meth c Q D tc ad kd (d + 795) nL A 0 (lv_args 0 [.ref (ad (d + 794))]) [] (rl_S L0 d S0) n := by
  have l0 : ((0 : Nat), Value.ref (ad (d + 794))) ∈ lv_args 0 [.ref (ad (d + 794))] := List.mem_cons_self
  have ok0 : gw_ok (rl_S L0 d S0) (d + 795) := hok
  refine fw_aload_n (i := 0) C0 l0 (by decide +kernel) ?_
  refine gw_obj (idx := 3) C0 (lk_chk_in (pl := 23025) (by decide +kernel)) (lk_chk_in (pl := 21030) (by decide +kernel)) (lk_chk_in (pl := 21031) (by decide +kernel)) hfr (by omega) (by decide) (by decide +kernel) ?_
  refine fw_aload_n (i := 0) C0 l0 (by decide +kernel) ?_
  refine fw_bipush (n0 := 10) C0 (by decide +kernel) ?_
  refine gw_puti (oc := 6) (idx := 9) (k := d + 794) (q := (9, 6, 0, 23027)) C0 rfl rfl (by omega) ((hkd 794 (by decide)).trans (by decide +kernel)) (by decide +kernel) rfl (by decide +kernel) ?_
  rw [rl_i]
  have ok0c0 : gw_ok (rl_S (L0) d (fw_i S0 (d + 794) 0 ((Int8.ofInt 10).toInt32))) (d + 795) := gw_ok_i ok0 (by omega)
  refine fw_aload_n (i := 0) C0 l0 (by decide +kernel) ?_
  refine fw_iconst (n0 := 2) C0 (by decide +kernel) ?_
  refine gw_puti (oc := 6) (idx := 15) (k := d + 794) (q := (15, 6, 1, 23032)) C0 rfl rfl (by omega) ((hkd 794 (by decide)).trans (by decide +kernel)) (by decide +kernel) rfl (by decide +kernel) ?_
  rw [rl_i]
  have ok0c1 : gw_ok (rl_S (L0) d (fw_i (fw_i S0 (d + 794) 0 ((Int8.ofInt 10).toInt32)) (d + 794) 1 (Int32.ofInt 2))) (d + 795) := gw_ok_i ok0c0 (by omega)
  refine fw_aload_n (i := 0) C0 l0 (by decide +kernel) ?_
  refine fw_iconst (n0 := 1) C0 (by decide +kernel) ?_
  refine gw_puti (oc := 6) (idx := 18) (k := d + 794) (q := (18, 6, 4, 23038)) C0 rfl rfl (by omega) ((hkd 794 (by decide)).trans (by decide +kernel)) (by decide +kernel) rfl (by decide +kernel) ?_
  rw [rl_i]
  have ok0c4 : gw_ok (rl_S (L0) d (fw_i (fw_i (fw_i S0 (d + 794) 0 ((Int8.ofInt 10).toInt32)) (d + 794) 1 (Int32.ofInt 2)) (d + 794) 4 (Int32.ofInt 1))) (d + 795) := gw_ok_i ok0c1 (by omega)
  refine fw_aload_n (i := 0) C0 l0 (by decide +kernel) ?_
  refine fw_iconst (n0 := 4) C0 (by decide +kernel) ?_
  refine fw_iconst (n0 := 4) C0 (by decide +kernel) ?_
  refine gw_mna (index := 21) (N := d + 795) (k := 4) (w := 4) C0 hAO.1 ok0c4.1 ok0c4.2 ((hkd 795 (by decide)).trans (by decide +kernel)) (fun i hi => (show kd (d + 795 + 1 + i) = _ by rw [show d + 795 + 1 + i = d + (795 + 1 + i) by omega]; exact (hkd (795 + 1 + i) (by omega)).trans (wd_kd_span (a := 796) (c := 799) (by decide +kernel) (by omega) (by omega)))) (by decide) (by decide) (by decide) (lk_chk_in (pl := 23026) (by decide +kernel)) (lk_chk_in (pl := 21080) (by decide +kernel)) (by omega) (by decide +kernel) (fun q r => gw_upm (fun ad1 h1 => ?_))
  rw [rl_rows (by decide)]
  have ok1a : gw_ok (rl_S ((795, 0, 3, 796) :: L0) d (fw_i (fw_i (fw_i S0 (d + 794) 0 ((Int8.ofInt 10).toInt32)) (d + 794) 1 (Int32.ofInt 2)) (d + 794) 4 (Int32.ofInt 1))) (d + 800) := gw_ok_rlm (n := 4) ok0c4 (by decide)
  rw [← h1 (d + 794) (by omega)]
  have l1 : ((0 : Nat), Value.ref (ad1 (d + 794))) ∈ lv_args 0 [.ref (ad1 (d + 794))] := List.mem_cons_self
  refine gw_putr (oc := 6) (idx := 23) (k := d + 794) (v := d + 795) (q := (23, 6, 6, 23043)) C0 hnm rfl rfl (by omega) ((hkd 794 (by decide)).trans (by decide +kernel)) rfl (by decide +kernel) (by decide +kernel) ?_
  rw [rl_r]
  have ok1b : gw_ok (rl_S ((794, 6, 6, 795) :: (795, 0, 3, 796) :: L0) d (fw_i (fw_i (fw_i S0 (d + 794) 0 ((Int8.ofInt 10).toInt32)) (d + 794) 1 (Int32.ofInt 2)) (d + 794) 4 (Int32.ofInt 1))) (d + 800) := gw_ok_rl ok1a (by omega) (by omega)
  refine fw_aload_n (i := 0) C0 l1 (by decide +kernel) ?_
  refine fw_bipush (n0 := 6) C0 (by decide +kernel) ?_
  refine gw_newa (N := d + 800) (K := 6) C0 ok1b.1 (ok1b.2 _ (Nat.le_refl _)) ((hkd 800 (by decide)).trans (by decide +kernel)) (by decide) (by decide) (by decide) (lk_chk_in (pl := 21080) (by decide +kernel)) (by omega) (by decide +kernel) (fun q => gw_up (fun ad2 h2 => ?_))
  have ok2a : gw_ok (rl_S ((794, 6, 6, 795) :: (795, 0, 3, 796) :: L0) d (fw_i (fw_i (fw_i S0 (d + 794) 0 ((Int8.ofInt 10).toInt32)) (d + 794) 1 (Int32.ofInt 2)) (d + 794) 4 (Int32.ofInt 1))) (d + 801) := gw_ok_1 ok1b
  rw [← h2 (d + 794) (by omega)]
  have l2 : ((0 : Nat), Value.ref (ad2 (d + 794))) ∈ lv_args 0 [.ref (ad2 (d + 794))] := List.mem_cons_self
  refine gw_putr (oc := 6) (idx := 26) (k := d + 794) (v := d + 800) (q := (26, 6, 7, 23045)) C0 hnm rfl rfl (by omega) ((hkd 794 (by decide)).trans (by decide +kernel)) rfl (by decide +kernel) (by decide +kernel) ?_
  rw [rl_r]
  have ok2b : gw_ok (rl_S ((794, 7, 7, 800) :: (794, 6, 6, 795) :: (795, 0, 3, 796) :: L0) d (fw_i (fw_i (fw_i S0 (d + 794) 0 ((Int8.ofInt 10).toInt32)) (d + 794) 1 (Int32.ofInt 2)) (d + 794) 4 (Int32.ofInt 1))) (d + 801) := gw_ok_rl ok2a (by omega) (by omega)
  have hk := kk ad2 (fun k hk => by rw [h2 k (by omega), h1 k (by omega)]) ok2b
  exact hk
end GL
