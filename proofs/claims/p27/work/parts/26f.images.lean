/-! ===== the row of images: made, and set ===== -/
section GI
variable {p : Program} {l : Launch} {e : Env} {R : Room} {s : State} {m : MethodId} {args : Array Value} {below : List Frame} {meth : Method} {c : Code} {Q : State → Prop}
variable {D : va_G} {tc : Nat → ClassId} {ad : Nat → Nat} {kd : Nat → Nat × Nat} {N nL : Nat} {A : Nat → Prop} {own : String} {cc : ByteArray} {st : Nat → Nat}
variable {pc n : Nat} {lv : List (Nat × Value)} {rest : List Value} {S : fw_S} {K : Nat} {n0 : Int32}
theorem gw_newq {index : Nat} (C0 : fw_C p s m args meth c D tc A own cc nL) (hov : va_AO RX8 s) (hc : gw_cl S N) (hd : gw_df S N) (hkd : kd N = (5, K)) (hn : ¬ n0 < 0) (hN : n0.toNatClampNeg = K) (hb : K * 4 ≤ 536870912) (w1 : Cond.classLink own index RX8 ∈ fw_AW) (hr : n + (1 + K / 6) ≤ R.cells ∧ 6 * (n + (1 + K / 6)) ≤ R.slots) (hdg : decode cc pc = .ok (.anewarray index, 3))
    (kk : ∀ q, fw_W p l e R s m args below meth c Q D tc (gad ad N q) kd (N + 1) nL A (pc + 3) lv (.ref q :: rest) S (n + (1 + K / 6))) : fw_W p l e R s m args below meth c Q D tc ad kd N nL A pc lv (.int n0 :: rest) S n := by
  intro H locs ls cells slots h1 h2 hP hD hS hl
  refine va_newq (ws := fw_w tc ad kd N S) C0.1 C0.2.1 C0.2.2.2.1 (C0.2.2.2.2.1 _ w1) hov C0.2.2.2.2.2.1 hP hD hS C0.2.2.2.2.2.2.2.1 hn hN hb (by omega) (by omega) hdg (fun q cA H1 hK1 hP1 hD1 hS1 => ?_)
  have hcA : cA = tc 5 := by
    obtain ⟨-, -, -, -, -, g1⟩ := (C0.2.2.2.2.2.1.2 5 (tc 5, .object RX8) rfl).2
    obtain ⟨-, -, -, -, -, g2⟩ := (hK1.2 6 (cA, .object RX8) rfl).2
    exact Option.some.inj (g2.symm.trans g1)
  have he : ((q, .inl (cA, K, .inr (.inr (.inr (.inr (fun _ => none)))))) : Nat × va_E) = (q, fw_e tc (gad ad N q) (kd N) S N) := by
    rw [hkd, hcA]
    show _ = (q, (Sum.inl (tc 5, K, .inr (.inr (.inr (.inr (fun j => (S.2.2 N j).map (gad ad N q)))))) : va_E))
    rw [show (fun j => (S.2.2 N j).map (gad ad N q)) = fun _ => none from funext fun j => by rw [hd.2.2 j]; rfl]
  rw [he, fw_w_grow hc] at hP1 hD1
  exact kk q H1 locs ls (cells + 1) (slots + K) (by omega) (by omega) hP1 hD1 hS1 hl
theorem gw_astq {k v n1 : Nat} {i : Int32} {T : u_T} (C0 : fw_C p s m args meth c D tc A own cc nL) (hk : k < N) (hv : v < N) (hkd : kd k = (5, n1)) (hkv : kd v = (8 + 6, 16)) (hin : vp_in i n1) (hdg : decode cc pc = .ok (.aastore, 1))
    (kk : fw_W p l e R s m args below meth c Q D tc ad kd N nL A (pc + 1) lv rest (fw_r S k i.toNatClampNeg (some v)) n) : fw_W p l e R s m args below meth c Q D tc ad kd N nL A pc lv (.ref (ad v) :: .int i :: .ref (ad k) :: rest) S n := by
  intro H locs ls cells slots h1 h2 hP hD hS hl
  refine va_astq (ws := fw_w tc ad kd N S) (v := ad v) (n := n1) (f := fun j => (S.2.2 k j).map ad) C0.1 C0.2.1 C0.2.2.2.2.2.1 hP hD hS k 5 v 8 (cA := tc 5) (r := (vwCl.getD 8 default)) (vs := (List.range 16).map (fun j => fw_v ad S v j (fw_fk (fw_ty 8 j)))) (by rw [fw_w_at hk, hkd]; rfl) rfl (by rw [fw_w_at hv, hkv]; rfl) rfl hin hdg (fun H1 locs1 hP1 hD1 hS1 => ?_)
  have he : ∀ j, ((fw_r S k i.toNatClampNeg (some v)).2.2 k j).map ad = (va_up (fun j => (S.2.2 k j).map ad) i.toNatClampNeg (some (ad v))) j := fun j => by
    show (if k = k ∧ j = i.toNatClampNeg then some v else S.2.2 k j).map ad = _
    unfold va_up
    by_cases g : j = i.toNatClampNeg
    · simp [g]
    · simp [g]
  rw [fw_w_set (tc := tc) (ad := ad) (kd := kd) (S := S) (S' := fw_r S k i.toNatClampNeg (some v)) hk (by rw [hkd]; show (Sum.inl (tc 5, n1, .inr (.inr (.inr (.inr (fun j => ((fw_r S k i.toNatClampNeg (some v)).2.2 k j).map ad))))) : va_E) = _; rw [show (fun j => ((fw_r S k i.toNatClampNeg (some v)).2.2 k j).map ad) = va_up (fun j => (S.2.2 k j).map ad) i.toNatClampNeg (some (ad v)) from funext he]) (fun a ha => fw_e_off rfl rfl (fw_r_off ha))] at hP1 hD1
  exact kk H1 locs1 ls cells slots h1 h2 hP1 hD1 hS1 hl
end GI
