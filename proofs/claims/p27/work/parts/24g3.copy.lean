/-! ===== rows copied ===== -/
def fw_cp (S : fw_S) (k0 k1 n : Nat) : fw_S := (fun a b => if a = k1 ∧ b < n then S.1 k0 b else S.1 a b, S.2)
def fw_cpL (S : fw_S) (k0 k1 n : Nat) : fw_S := (S.1, fun a b => if a = k1 ∧ b < n then S.2.1 k0 b else S.2.1 a b, S.2.2)
theorem lk_cp_k : Cond.methodLink "UtilityWorks" 620 arraycopyName ∈ fw_AW := lk_chk_in (pl := 24107) (by decide +kernel)
theorem lk_cp_s : Cond.static arraycopyName ∈ fw_AW := lk_chk_in (pl := 24108) (by decide +kernel)
theorem lk_cp_n : Cond.native arraycopyName ∈ fw_AW := lk_chk_in (pl := 24109) (by decide +kernel)
theorem lk_cp_i : Cond.initialized "java/lang/System" ∈ fw_AW := lk_chk_in (pl := 21022) (by decide +kernel)
theorem lk_cp_m : Cond.methodLink "UtilityWorks" 617 Lib.Math.min.name ∈ fw_AW := by
  have h := (lkm_at_in (oc := 11) (idx := 617) rfl).2
  exact lk_chk_in h
theorem cp_min {n : Nat} : (if Int32.ofNat n < Int32.ofNat n then Int32.ofNat n else Int32.ofNat n) = Int32.ofNat n := ite_self _
theorem cp_clamp {n : Nat} (hn : n < 2147483648) : (Int32.ofNat n).toNatClampNeg = n := nI_clamp hn
section CP
variable {p : Program} {l : Launch} {e : Env} {R : Room} {s : State} {m : MethodId} {args : Array Value} {below : List Frame} {meth : Method} {c : Code} {Q : State → Prop}
variable {D : va_G} {tc : Nat → ClassId} {ad : Nat → Nat} {kd : Nat → Nat × Nat} {N nL : Nat} {A : Nat → Prop} {cc : ByteArray} {st : Nat → Nat}
variable {pc n : Nat} {lv : List (Nat × Value)} {S : fw_S} {k0 k1 n0 : Nat}
theorem fw_copyi (C0 : fw_C p s m args meth c D tc A "UtilityWorks" cc nL) (hk0 : k0 < N) (hk1 : k1 < N) (h0 : kd k0 = (0, n0)) (h1 : kd k1 = (0, n0)) (hn : n0 < 2147483648) (hf : 1 ≤ R.frames) (hl : 60 ≤ R.locals) (hdg : decode cc pc = .ok (.invokestatic 620, 3))
    (kk : fw_W p l e R s m args below meth c Q D tc ad kd N nL A (pc + 3) lv [] (fw_cp S k0 k1 n0) n) : fw_W p l e R s m args below meth c Q D tc ad kd N nL A pc lv [.int (Int32.ofNat n0), .int 0, .ref (ad k1), .int 0, .ref (ad k0)] S n := by
  intro H locs ls cells slots z1 z2 hP hD hS hl2
  refine va_copyi C0.1 C0.2.1 (C0.2.2.1.trans hl2.1.symm) C0.2.2.2.1 (C0.2.2.2.2.1 _ lk_cp_k) (C0.2.2.2.2.1 _ lk_cp_n) (C0.2.2.2.2.1 _ lk_cp_s) (C0.2.2.2.2.1 _ lk_cp_i) C0.2.2.2.2.2.1 hP hD hS k0 k1 0 0 (c0 := tc 0) (c1 := tc 0) (n0 := n0) (n1 := n0) (f := S.1 k0) (g := S.1 k1) (ty := .int)
    (by rw [fw_w_at hk0, h0]; rfl) (by rw [fw_w_at hk1, h1]; rfl) rfl rfl rfl (by decide) (by decide) (nI_pos hn) (by rw [cp_clamp hn]; exact Nat.le_of_eq (Nat.zero_add n0)) (by rw [cp_clamp hn]; exact Nat.le_of_eq (Nat.zero_add n0)) (fun _ _ => rfl) hf (Nat.le_trans (by decide +kernel) hl) hdg ?_
  intro H1 locs1 hP1 hD1 hS1
  have ew : (fw_w tc ad kd N S).set k1 (ad k1, .inl (tc 0, n0, .inl (va_cpy (S.1 k0) (S.1 k1) (0 : Int32).toNatClampNeg (0 : Int32).toNatClampNeg (Int32.ofNat n0).toNatClampNeg))) = fw_w tc ad kd N (fw_cp S k0 k1 n0) := by
    refine fw_w_set hk1 ?_ (fun a ha => fw_e_off ?_ rfl rfl)
    · rw [h1, cp_clamp hn]
      show Sum.inl (tc 0, n0, Sum.inl ((fw_cp S k0 k1 n0).1 k1)) = _
      have e9 : (fw_cp S k0 k1 n0).1 k1 = va_cpy (S.1 k0) (S.1 k1) (0 : Int32).toNatClampNeg (0 : Int32).toNatClampNeg n0 := by
        funext b
        show (if k1 = k1 ∧ b < n0 then S.1 k0 b else S.1 k1 b) = if (0 : Int32).toNatClampNeg ≤ b ∧ b < (0 : Int32).toNatClampNeg + n0 then S.1 k0 ((0 : Int32).toNatClampNeg + (b - (0 : Int32).toNatClampNeg)) else S.1 k1 b
        rw [show (0 : Int32).toNatClampNeg = 0 by decide]
        by_cases hb : b < n0
        · rw [if_pos ⟨rfl, hb⟩, if_pos ⟨Nat.zero_le _, by omega⟩, Nat.zero_add, Nat.sub_zero]
        · rw [if_neg (fun q => hb q.2), if_neg (fun q => hb (by omega))]
      rw [e9]
    · funext b
      show (if a = k1 ∧ b < n0 then S.1 k0 b else S.1 a b) = S.1 a b
      rw [if_neg (fun q => ha q.1)]
  rw [ew] at hP1 hD1
  exact kk H1 locs1 ls cells slots z1 z2 hP1 hD1 hS1 hl2
theorem fw_copyl (C0 : fw_C p s m args meth c D tc A "UtilityWorks" cc nL) (hk0 : k0 < N) (hk1 : k1 < N) (h0 : kd k0 = (1, n0)) (h1 : kd k1 = (1, n0)) (hn : n0 < 2147483648) (hf : 1 ≤ R.frames) (hl : 60 ≤ R.locals) (hdg : decode cc pc = .ok (.invokestatic 620, 3))
    (kk : fw_W p l e R s m args below meth c Q D tc ad kd N nL A (pc + 3) lv [] (fw_cpL S k0 k1 n0) n) : fw_W p l e R s m args below meth c Q D tc ad kd N nL A pc lv [.int (Int32.ofNat n0), .int 0, .ref (ad k1), .int 0, .ref (ad k0)] S n := by
  intro H locs ls cells slots z1 z2 hP hD hS hl2
  refine va_copyl C0.1 C0.2.1 (C0.2.2.1.trans hl2.1.symm) C0.2.2.2.1 (C0.2.2.2.2.1 _ lk_cp_k) (C0.2.2.2.2.1 _ lk_cp_n) (C0.2.2.2.2.1 _ lk_cp_s) (C0.2.2.2.2.1 _ lk_cp_i) C0.2.2.2.2.2.1 hP hD hS k0 k1 1 1 (c0 := tc 1) (c1 := tc 1) (n0 := n0) (n1 := n0) (f := S.2.1 k0) (g := S.2.1 k1) (ty := .long)
    (by rw [fw_w_at hk0, h0]; rfl) (by rw [fw_w_at hk1, h1]; rfl) rfl rfl rfl (by decide) (by decide) (nI_pos hn) (by rw [cp_clamp hn]; exact Nat.le_of_eq (Nat.zero_add n0)) (by rw [cp_clamp hn]; exact Nat.le_of_eq (Nat.zero_add n0)) (fun _ _ => rfl) hf (Nat.le_trans (by decide +kernel) hl) hdg ?_
  intro H1 locs1 hP1 hD1 hS1
  have ew : (fw_w tc ad kd N S).set k1 (ad k1, .inl (tc 1, n0, .inr (.inl (va_cpy (S.2.1 k0) (S.2.1 k1) (0 : Int32).toNatClampNeg (0 : Int32).toNatClampNeg (Int32.ofNat n0).toNatClampNeg)))) = fw_w tc ad kd N (fw_cpL S k0 k1 n0) := by
    refine fw_w_set hk1 ?_ (fun a ha => fw_e_off rfl ?_ rfl)
    · rw [h1, cp_clamp hn]
      show Sum.inl (tc 1, n0, Sum.inr (Sum.inl ((fw_cpL S k0 k1 n0).2.1 k1))) = _
      have e9 : (fw_cpL S k0 k1 n0).2.1 k1 = va_cpy (S.2.1 k0) (S.2.1 k1) (0 : Int32).toNatClampNeg (0 : Int32).toNatClampNeg n0 := by
        funext b
        show (if k1 = k1 ∧ b < n0 then S.2.1 k0 b else S.2.1 k1 b) = if (0 : Int32).toNatClampNeg ≤ b ∧ b < (0 : Int32).toNatClampNeg + n0 then S.2.1 k0 ((0 : Int32).toNatClampNeg + (b - (0 : Int32).toNatClampNeg)) else S.2.1 k1 b
        rw [show (0 : Int32).toNatClampNeg = 0 by decide]
        by_cases hb : b < n0
        · rw [if_pos ⟨rfl, hb⟩, if_pos ⟨Nat.zero_le _, by omega⟩, Nat.zero_add, Nat.sub_zero]
        · rw [if_neg (fun q => hb q.2), if_neg (fun q => hb (by omega))]
      rw [e9]
    · funext b
      show (if a = k1 ∧ b < n0 then S.2.1 k0 b else S.2.1 a b) = S.2.1 a b
      rw [if_neg (fun q => ha q.1)]
  rw [ew] at hP1 hD1
  exact kk H1 locs1 ls cells slots z1 z2 hP1 hD1 hS1 hl2
end CP
section CQ
variable {l : Launch} {D : va_G} {tc : Nat → ClassId} {ad : Nat → Nat} {kd : Nat → Nat × Nat} {N : Nat} {st : Nat → Nat} {S : fw_S} {k0 k1 n0 : Nat}
theorem fw_copyRow (hk0 : k0 < N) (hk1 : k1 < N) (h0 : kd k0 = (0, n0)) (h1 : kd k1 = (0, n0)) (hn : n0 < 2147483648) : fw_Met l ⟨"UtilityWorks", "copyRow", "([I[I)V"⟩ prog_1_method_128_code 2 none 2 100 0 D tc ad kd N st [.ref (ad k0), .ref (ad k1)] S (fun oc S' => oc = .inl none ∧ S' = fw_cp S k0 k1 n0) :=
  fw_ofW (by decide +kernel) (Nat.le_of_eq rfl) (fun sz p e s m args below meth c C0 hSt hret hex hname => by
    have l0 : ((0 : Nat), Value.ref (ad k0)) ∈ lv_args 0 [.ref (ad k0), .ref (ad k1)] := List.mem_cons_self
    have l1 : ((1 : Nat), Value.ref (ad k1)) ∈ lv_args 0 [.ref (ad k0), .ref (ad k1)] := List.mem_cons_of_mem _ List.mem_cons_self
    refine fw_aload_n (i := 0) C0 l0 (by decide +kernel) ?_
    refine fw_iconst (n0 := 0) C0 (by decide +kernel) ?_
    refine fw_aload_n (i := 1) C0 l1 (by decide +kernel) ?_
    refine fw_iconst (n0 := 0) C0 (by decide +kernel) ?_
    refine fw_aload_n (i := 0) C0 l0 (by decide +kernel) ?_
    refine fw_alen C0 (z := 0) (by decide) hk0 h0 (by decide +kernel) ?_
    refine fw_aload_n (i := 1) C0 l1 (by decide +kernel) ?_
    refine fw_alen C0 (z := 0) (by decide) hk1 h1 (by decide +kernel) ?_
    intro H locs ls cells slots z1 z2 hP hD hS hl2
    refine va_mmin C0.1 C0.2.1 (C0.2.2.1.trans hl2.1.symm) C0.2.2.2.1 (C0.2.2.2.2.1 _ lk_cp_m) (C0.2.2.2.2.1 _ lk_min_s) (C0.2.2.2.2.1 _ lk_math) (C0.2.2.2.2.1 _ lk_min_c) (by decide) (Nat.le_of_ble_eq_true rfl) z1 z2 (by decide +kernel) ?_
    rw [cp_min]
    exact fw_copyi C0 hk0 hk1 h0 h1 hn (by decide) (by decide) (by decide +kernel) (fw_vret C0 hSt hret (Nat.le_refl _) ⟨rfl, rfl⟩ (by decide +kernel)) H locs ls cells slots z1 z2 hP hD hS hl2)
theorem fw_copyLongs (hk0 : k0 < N) (hk1 : k1 < N) (h0 : kd k0 = (1, n0)) (h1 : kd k1 = (1, n0)) (hn : n0 < 2147483648) : fw_Met l ⟨"UtilityWorks", "copyLongs", "([J[J)V"⟩ prog_1_method_129_code 2 none 2 100 0 D tc ad kd N st [.ref (ad k0), .ref (ad k1)] S (fun oc S' => oc = .inl none ∧ S' = fw_cpL S k0 k1 n0) :=
  fw_ofW (by decide +kernel) (Nat.le_of_eq rfl) (fun sz p e s m args below meth c C0 hSt hret hex hname => by
    have l0 : ((0 : Nat), Value.ref (ad k0)) ∈ lv_args 0 [.ref (ad k0), .ref (ad k1)] := List.mem_cons_self
    have l1 : ((1 : Nat), Value.ref (ad k1)) ∈ lv_args 0 [.ref (ad k0), .ref (ad k1)] := List.mem_cons_of_mem _ List.mem_cons_self
    refine fw_aload_n (i := 0) C0 l0 (by decide +kernel) ?_
    refine fw_iconst (n0 := 0) C0 (by decide +kernel) ?_
    refine fw_aload_n (i := 1) C0 l1 (by decide +kernel) ?_
    refine fw_iconst (n0 := 0) C0 (by decide +kernel) ?_
    refine fw_aload_n (i := 0) C0 l0 (by decide +kernel) ?_
    refine fw_alen C0 (z := 1) (by decide) hk0 h0 (by decide +kernel) ?_
    refine fw_aload_n (i := 1) C0 l1 (by decide +kernel) ?_
    refine fw_alen C0 (z := 1) (by decide) hk1 h1 (by decide +kernel) ?_
    intro H locs ls cells slots z1 z2 hP hD hS hl2
    refine va_mmin C0.1 C0.2.1 (C0.2.2.1.trans hl2.1.symm) C0.2.2.2.1 (C0.2.2.2.2.1 _ lk_cp_m) (C0.2.2.2.2.1 _ lk_min_s) (C0.2.2.2.2.1 _ lk_math) (C0.2.2.2.2.1 _ lk_min_c) (by decide) (Nat.le_of_ble_eq_true rfl) z1 z2 (by decide +kernel) ?_
    rw [cp_min]
    exact fw_copyl C0 hk0 hk1 h0 h1 hn (by decide) (by decide) (by decide +kernel) (fw_vret C0 hSt hret (Nat.le_refl _) ⟨rfl, rfl⟩ (by decide +kernel)) H locs ls cells slots z1 z2 hP hD hS hl2)
end CQ
/-- what cells hold for good stands where one row's contents come into another one -/
def gi_cpk (a b n : Nat) : Bool := wd_gt.all (fun q => !(decide (q.1.1 ≤ b) && decide (b ≤ q.1.2)) || (wd_gt.any (fun r => rg_has r a a q.2.1 && av_le r.2.2 q.2.2)))
theorem gi_cp {S : fw_S} {a b n : Nat} (h : gi_cpk a b n = true) (hg : gi_in S) : gi_in (fw_cp S a b n) := by
  refine ⟨fun q hq k j k1 k2 k3 => ?_, fun q hq => hg.2 q hq⟩
  show av_in q.2.2 (0, ((if k = b ∧ j < n then S.1 a j else S.1 k j)).toInt)
  split
  · rename_i hb
    have h1 := List.all_eq_true.mp h q hq
    rw [← hb.1, Bool.or_eq_true] at h1
    rcases h1 with h1 | h1
    · rw [decide_eq_true k1, decide_eq_true k2] at h1
      cases h1
    · obtain ⟨r, r1, r2⟩ := List.any_eq_true.mp h1
      simp only [rg_has, Bool.and_eq_true, decide_eq_true_eq] at r2
      exact av_le_in r2.2 (hg.1 r r1 a j r2.1.1.1 r2.1.1.2 (pg_le_in r2.1.2 k3))
  · exact hg.1 q hq k j k1 k2 k3
def kh_copyRow_132_135 : ct_T := (45, [(2, 132, 132, 1), (2, 135, 135, 1)], [], [], [(0, (0, 0, 0, 0), [(2, 132, 132, 1), (2, 135, 135, 1)], [], ([], []))], [((135, 135), (0, 11, 1))], 2, 100, 0)
theorem kh_copyRow_132_135_ok : ct_ok wd_fl2 kh_copyRow_132_135 := fun y hy l D tc ad kd N sm xs S hK hxs _ _ hgi => by
  cases (show mt_at 45 = some (⟨"UtilityWorks", "copyRow", "([I[I)V"⟩, prog_1_method_128_code, 2, none, 11, 0, 2, 24105, 24104, 0, 21001) from rfl).symm.trans hy
  have e0 := en_nv (i := 0) hxs rfl
  have e1 := en_nv (i := 1) hxs rfl
  have b0 : 132 ≤ nv xs 0 ∧ nv xs 0 ≤ 132 := e0.2
  have b1 : 135 ≤ nv xs 1 ∧ nv xs 1 ≤ 135 := e1.2
  have hx : xs = [(2, 132), (2, 135)] := by
    have hlen : xs.length = 2 := hxs.1
    match xs, hlen, e0, e1, b0, b1 with
    | [x, y], _, e0, e1, b0, b1 =>
      have f0 : x = (2, nv [x, y] 0) := Option.some.inj e0.1
      have f1 : y = (2, nv [x, y] 1) := Option.some.inj e1.1
      have g0 : nv [x, y] 0 = 132 := by omega
      have g1 : nv [x, y] 1 = 135 := by omega
      rw [g0] at f0
      rw [g1] at f1
      rw [f0, f1]
  subst hx
  refine fw_Met_mono (fw_copyRow (k0 := 132) (k1 := 135) (n0 := 12) (Nat.lt_of_lt_of_le (by decide) hK.1.1) (Nat.lt_of_lt_of_le (by decide) hK.1.1) ((hK.1.2 132 (by decide)).trans (by decide +kernel)) ((hK.1.2 135 (by decide)).trans (by decide +kernel)) (by decide)) (fun oc S' hp => ?_)
  obtain ⟨rfl, rfl⟩ := hp
  refine ⟨_, List.mem_cons_self, rfl, hxs, (fun _ h => nomatch h), (fun _ h => nomatch h), (fun _ h => nomatch h), gi_cp (by decide +kernel) hgi, ⟨fun k j hn => ⟨?_, rfl⟩, rfl⟩⟩
  show (if k = 135 ∧ j < 12 then S.1 132 j else S.1 k j) = S.1 k j
  rw [if_neg]
  intro q
  exact hn ⟨_, List.mem_cons_self, by show 135 ≤ k; omega, by show k ≤ 135; omega, pg_mk (Nat.zero_le _) (by omega) (Nat.one_dvd _)⟩
def kh_copyRow_133_135 : ct_T := (45, [(2, 133, 133, 1), (2, 135, 135, 1)], [], [], [(0, (0, 0, 0, 0), [(2, 133, 133, 1), (2, 135, 135, 1)], [], ([], []))], [((135, 135), (0, 11, 1))], 2, 100, 0)
theorem kh_copyRow_133_135_ok : ct_ok wd_fl2 kh_copyRow_133_135 := fun y hy l D tc ad kd N sm xs S hK hxs _ _ hgi => by
  cases (show mt_at 45 = some (⟨"UtilityWorks", "copyRow", "([I[I)V"⟩, prog_1_method_128_code, 2, none, 11, 0, 2, 24105, 24104, 0, 21001) from rfl).symm.trans hy
  have e0 := en_nv (i := 0) hxs rfl
  have e1 := en_nv (i := 1) hxs rfl
  have b0 : 133 ≤ nv xs 0 ∧ nv xs 0 ≤ 133 := e0.2
  have b1 : 135 ≤ nv xs 1 ∧ nv xs 1 ≤ 135 := e1.2
  have hx : xs = [(2, 133), (2, 135)] := by
    have hlen : xs.length = 2 := hxs.1
    match xs, hlen, e0, e1, b0, b1 with
    | [x, y], _, e0, e1, b0, b1 =>
      have f0 : x = (2, nv [x, y] 0) := Option.some.inj e0.1
      have f1 : y = (2, nv [x, y] 1) := Option.some.inj e1.1
      have g0 : nv [x, y] 0 = 133 := by omega
      have g1 : nv [x, y] 1 = 135 := by omega
      rw [g0] at f0
      rw [g1] at f1
      rw [f0, f1]
  subst hx
  refine fw_Met_mono (fw_copyRow (k0 := 133) (k1 := 135) (n0 := 12) (Nat.lt_of_lt_of_le (by decide) hK.1.1) (Nat.lt_of_lt_of_le (by decide) hK.1.1) ((hK.1.2 133 (by decide)).trans (by decide +kernel)) ((hK.1.2 135 (by decide)).trans (by decide +kernel)) (by decide)) (fun oc S' hp => ?_)
  obtain ⟨rfl, rfl⟩ := hp
  refine ⟨_, List.mem_cons_self, rfl, hxs, (fun _ h => nomatch h), (fun _ h => nomatch h), (fun _ h => nomatch h), gi_cp (by decide +kernel) hgi, ⟨fun k j hn => ⟨?_, rfl⟩, rfl⟩⟩
  show (if k = 135 ∧ j < 12 then S.1 133 j else S.1 k j) = S.1 k j
  rw [if_neg]
  intro q
  exact hn ⟨_, List.mem_cons_self, by show 135 ≤ k; omega, by show k ≤ 135; omega, pg_mk (Nat.zero_le _) (by omega) (Nat.one_dvd _)⟩
def kh_copyRow_157_158 : ct_T := (45, [(2, 157, 157, 1), (2, 158, 158, 1)], [], [], [(0, (0, 0, 0, 0), [(2, 157, 157, 1), (2, 158, 158, 1)], [], ([], []))], [((158, 158), (0, 11, 1))], 2, 100, 0)
theorem kh_copyRow_157_158_ok : ct_ok wd_fl2 kh_copyRow_157_158 := fun y hy l D tc ad kd N sm xs S hK hxs _ _ hgi => by
  cases (show mt_at 45 = some (⟨"UtilityWorks", "copyRow", "([I[I)V"⟩, prog_1_method_128_code, 2, none, 11, 0, 2, 24105, 24104, 0, 21001) from rfl).symm.trans hy
  have e0 := en_nv (i := 0) hxs rfl
  have e1 := en_nv (i := 1) hxs rfl
  have b0 : 157 ≤ nv xs 0 ∧ nv xs 0 ≤ 157 := e0.2
  have b1 : 158 ≤ nv xs 1 ∧ nv xs 1 ≤ 158 := e1.2
  have hx : xs = [(2, 157), (2, 158)] := by
    have hlen : xs.length = 2 := hxs.1
    match xs, hlen, e0, e1, b0, b1 with
    | [x, y], _, e0, e1, b0, b1 =>
      have f0 : x = (2, nv [x, y] 0) := Option.some.inj e0.1
      have f1 : y = (2, nv [x, y] 1) := Option.some.inj e1.1
      have g0 : nv [x, y] 0 = 157 := by omega
      have g1 : nv [x, y] 1 = 158 := by omega
      rw [g0] at f0
      rw [g1] at f1
      rw [f0, f1]
  subst hx
  refine fw_Met_mono (fw_copyRow (k0 := 157) (k1 := 158) (n0 := 12) (Nat.lt_of_lt_of_le (by decide) hK.1.1) (Nat.lt_of_lt_of_le (by decide) hK.1.1) ((hK.1.2 157 (by decide)).trans (by decide +kernel)) ((hK.1.2 158 (by decide)).trans (by decide +kernel)) (by decide)) (fun oc S' hp => ?_)
  obtain ⟨rfl, rfl⟩ := hp
  refine ⟨_, List.mem_cons_self, rfl, hxs, (fun _ h => nomatch h), (fun _ h => nomatch h), (fun _ h => nomatch h), gi_cp (by decide +kernel) hgi, ⟨fun k j hn => ⟨?_, rfl⟩, rfl⟩⟩
  show (if k = 158 ∧ j < 12 then S.1 157 j else S.1 k j) = S.1 k j
  rw [if_neg]
  intro q
  exact hn ⟨_, List.mem_cons_self, by show 158 ≤ k; omega, by show k ≤ 158; omega, pg_mk (Nat.zero_le _) (by omega) (Nat.one_dvd _)⟩
def kh_copyRow_157_803 : ct_T := (45, [(2, 157, 157, 1), (2, 803, 803, 1)], [], [], [(0, (0, 0, 0, 0), [(2, 157, 157, 1), (2, 803, 803, 1)], [], ([], []))], [((803, 803), (0, 11, 1))], 2, 100, 0)
theorem kh_copyRow_157_803_ok : ct_ok wd_fl2 kh_copyRow_157_803 := fun y hy l D tc ad kd N sm xs S hK hxs _ _ hgi => by
  cases (show mt_at 45 = some (⟨"UtilityWorks", "copyRow", "([I[I)V"⟩, prog_1_method_128_code, 2, none, 11, 0, 2, 24105, 24104, 0, 21001) from rfl).symm.trans hy
  have e0 := en_nv (i := 0) hxs rfl
  have e1 := en_nv (i := 1) hxs rfl
  have b0 : 157 ≤ nv xs 0 ∧ nv xs 0 ≤ 157 := e0.2
  have b1 : 803 ≤ nv xs 1 ∧ nv xs 1 ≤ 803 := e1.2
  have hx : xs = [(2, 157), (2, 803)] := by
    have hlen : xs.length = 2 := hxs.1
    match xs, hlen, e0, e1, b0, b1 with
    | [x, y], _, e0, e1, b0, b1 =>
      have f0 : x = (2, nv [x, y] 0) := Option.some.inj e0.1
      have f1 : y = (2, nv [x, y] 1) := Option.some.inj e1.1
      have g0 : nv [x, y] 0 = 157 := by omega
      have g1 : nv [x, y] 1 = 803 := by omega
      rw [g0] at f0
      rw [g1] at f1
      rw [f0, f1]
  subst hx
  refine fw_Met_mono (fw_copyRow (k0 := 157) (k1 := 803) (n0 := 12) (Nat.lt_of_lt_of_le (by decide) hK.1.1) (Nat.lt_of_lt_of_le (by decide) hK.1.1) ((hK.1.2 157 (by decide)).trans (by decide +kernel)) ((hK.1.2 803 (by decide)).trans (by decide +kernel)) (by decide)) (fun oc S' hp => ?_)
  obtain ⟨rfl, rfl⟩ := hp
  refine ⟨_, List.mem_cons_self, rfl, hxs, (fun _ h => nomatch h), (fun _ h => nomatch h), (fun _ h => nomatch h), gi_cp (by decide +kernel) hgi, ⟨fun k j hn => ⟨?_, rfl⟩, rfl⟩⟩
  show (if k = 803 ∧ j < 12 then S.1 157 j else S.1 k j) = S.1 k j
  rw [if_neg]
  intro q
  exact hn ⟨_, List.mem_cons_self, by show 803 ≤ k; omega, by show k ≤ 803; omega, pg_mk (Nat.zero_le _) (by omega) (Nat.one_dvd _)⟩
def kh_copyRow_133_803 : ct_T := (45, [(2, 133, 133, 1), (2, 803, 803, 1)], [], [], [(0, (0, 0, 0, 0), [(2, 133, 133, 1), (2, 803, 803, 1)], [], ([], []))], [((803, 803), (0, 11, 1))], 2, 100, 0)
theorem kh_copyRow_133_803_ok : ct_ok wd_fl2 kh_copyRow_133_803 := fun y hy l D tc ad kd N sm xs S hK hxs _ _ hgi => by
  cases (show mt_at 45 = some (⟨"UtilityWorks", "copyRow", "([I[I)V"⟩, prog_1_method_128_code, 2, none, 11, 0, 2, 24105, 24104, 0, 21001) from rfl).symm.trans hy
  have e0 := en_nv (i := 0) hxs rfl
  have e1 := en_nv (i := 1) hxs rfl
  have b0 : 133 ≤ nv xs 0 ∧ nv xs 0 ≤ 133 := e0.2
  have b1 : 803 ≤ nv xs 1 ∧ nv xs 1 ≤ 803 := e1.2
  have hx : xs = [(2, 133), (2, 803)] := by
    have hlen : xs.length = 2 := hxs.1
    match xs, hlen, e0, e1, b0, b1 with
    | [x, y], _, e0, e1, b0, b1 =>
      have f0 : x = (2, nv [x, y] 0) := Option.some.inj e0.1
      have f1 : y = (2, nv [x, y] 1) := Option.some.inj e1.1
      have g0 : nv [x, y] 0 = 133 := by omega
      have g1 : nv [x, y] 1 = 803 := by omega
      rw [g0] at f0
      rw [g1] at f1
      rw [f0, f1]
  subst hx
  refine fw_Met_mono (fw_copyRow (k0 := 133) (k1 := 803) (n0 := 12) (Nat.lt_of_lt_of_le (by decide) hK.1.1) (Nat.lt_of_lt_of_le (by decide) hK.1.1) ((hK.1.2 133 (by decide)).trans (by decide +kernel)) ((hK.1.2 803 (by decide)).trans (by decide +kernel)) (by decide)) (fun oc S' hp => ?_)
  obtain ⟨rfl, rfl⟩ := hp
  refine ⟨_, List.mem_cons_self, rfl, hxs, (fun _ h => nomatch h), (fun _ h => nomatch h), (fun _ h => nomatch h), gi_cp (by decide +kernel) hgi, ⟨fun k j hn => ⟨?_, rfl⟩, rfl⟩⟩
  show (if k = 803 ∧ j < 12 then S.1 133 j else S.1 k j) = S.1 k j
  rw [if_neg]
  intro q
  exact hn ⟨_, List.mem_cons_self, by show 803 ≤ k; omega, by show k ≤ 803; omega, pg_mk (Nat.zero_le _) (by omega) (Nat.one_dvd _)⟩
