/-! ===== STEPS: fields, switches, the numbers of Math ===== -/
def cl_n (ci : Nat) : Nat := match vwCl[ci]? with
  | some c => c.2.2
  | none => 0
theorem cl_ws {ci : Nat} {c : vw_C} (h : vwCl[ci]? = some c) : ∀ w ∈ u_ws c.1 c.2.1 c.2.2, w ∈ fw_AW := by
  match ci with
  | 0 => cases h; exact lku_0_in
  | 1 => cases h; exact lku_1_in
  | 2 => cases h; exact lku_2_in
  | 3 => cases h; exact lku_3_in
  | 4 => cases h; exact lku_4_in
  | 5 => cases h; exact lku_5_in
  | 6 => cases h; exact lku_6_in
  | 7 => cases h; exact lku_7_in
  | 8 => cases h; exact lku_8_in
  | 9 => cases h; exact lku_9_in
  | 10 => cases h; exact lku_10_in
  | 11 => cases h; exact lku_11_in
  | 12 => cases h; exact lku_12_in
  | n + 13 => cases h
theorem cl_ty {ci : Nat} {c : vw_C} (h : vwCl[ci]? = some c) : (∀ k, k < c.2.2 → parseFieldDescriptor (c.2.1 k).2.2.1 = some (fw_ty ci k)) ∧ (∀ a, a < c.2.2 → ∀ b, b < c.2.2 → a ≠ b → (c.2.1 a).2.1 ≠ (c.2.1 b).2.1) := by
  match ci with
  | 0 => cases h; exact ⟨tyX0_ok, nmX0⟩
  | 1 => cases h; exact ⟨tyX1_ok, nmX1⟩
  | 2 => cases h; exact ⟨tyX2_ok, nmX2⟩
  | 3 => cases h; exact ⟨tyX3_ok, nmX3⟩
  | 4 => cases h; exact ⟨tyX4_ok, nmX4⟩
  | 5 => cases h; exact ⟨tyX5_ok, nmX5⟩
  | 6 => cases h; exact ⟨tyX6_ok, nmX6⟩
  | 7 => cases h; exact ⟨tyX7_ok, nmX7⟩
  | 8 => cases h; exact ⟨tyX8_ok, nmX8⟩
  | 9 => cases h; exact ⟨tyX9_ok, nmX9⟩
  | 10 => cases h; exact ⟨tyX10_ok, nmX10⟩
  | 11 => cases h; exact ⟨tyX11_ok, nmX11⟩
  | 12 => cases h; exact ⟨tyX12_ok, nmX12⟩
  | n + 13 => cases h
def lkf_at (oc idx : Nat) : Option lk_F := (lkf oc).find? (fun q => q.1 == idx)
theorem lkf_at_in {oc idx : Nat} {q : lk_F} (h : lkf_at oc idx = some q) : ∃ c : vw_C, vwCl[q.2.1]? = some c ∧ q.2.2.1 < c.2.2 ∧ Cond.fieldLink (lk_own oc) idx (c.2.1 q.2.2.1).1 (c.2.1 q.2.2.1).2.1 (c.2.1 q.2.2.1).2.2.1 ∈ fw_AW := by
  have h1 := lkf_ok oc q (List.mem_of_find?_eq_some h)
  have h2 : q.1 = idx := by simpa using List.find?_some h
  unfold lkf_b at h1
  split at h1
  · rename_i c T n0 hc
    rw [Bool.and_eq_true, decide_eq_true_eq] at h1
    exact ⟨_, hc, h1.1, by rw [← h2]; exact lk_chk_in h1.2⟩
  · cases h1
section SF
variable {p : Program} {l : Launch} {e0 : Env} {R : Room} {s0 : State} {m : MethodId} {args : Array Value} {below : List Frame} {meth : Method} {c0 : Code} {Q : State → Prop}
variable {D : va_G} {tc : Nat → ClassId} {ad : Nat → Nat} {kd : Nat → Nat × Nat} {N nL : Nat} {A0 : Nat → Prop} {own : String} {cc : ByteArray} {sm : Nat → Nat}
variable {fl : fl_T} {ff : Nat → List md_T} {α0 : List av_X} {S0 : fw_S} {mod : List md_T} {α : List av_X} {A A' : as_T} {lv : List (Nat × Value)} {st : List Value} {S : fw_S} {pc n : Nat}

/-- a name for a number, not on the stack -/
def q_nm (A : as_T) (j : Nat) : as_T := (A.1 ++ [((0, (j : Int), (j : Int), 0), none)], A.2)
theorem q_nm_in {j : Nat} (hj : j < 2147483648) (H : as_in ad sm fl α0 S0 mod α A lv st S) : (α ++ [(0, (j : Int))])[A.1.length]? = some (0, (j : Int)) ∧ as_in ad sm fl α0 S0 mod (α ++ [(0, (j : Int))]) (q_nm A j) lv st S := by
  have hl : α.length = A.1.length := H.2.1.1
  refine ⟨by rw [← hl]; exact al_last, ?_⟩
  exact as_new (as_q H rfl) ⟨rfl, (show -2147483648 ≤ (j : Int) ∧ (j : Int) ≤ 2147483647 by omega), Int.le_refl _, Int.le_refl _, by show ((0 : Nat) : Int) ∣ (j : Int) - (j : Int); rw [Int.sub_self]; exact Int.dvd_zero _⟩ (fun _ _ q => by cases q)
def q_getf (oc idx : Nat) (A : as_T) : Option as_T := match A.2.2.1 with
  | rv :: s => (match lkf_at oc idx with
    | some q => (match q_rk A rv with
      | some w => if w.2.1 = q.2.1 + 6 ∧ w.2.2 = cl_n q.2.1 ∧ q.2.2.1 < 2147483648 then (match fw_fk (fw_ty q.2.1 q.2.2.1) with
        | 0 => some (q_read (q_nm (q_stk A s) q.2.2.1) rv A.1.length w.1.1 w.1.2 (q.2.2.1, q.2.2.1, 0) 0)
        | 1 => some (q_read (q_nm (q_stk A s) q.2.2.1) rv A.1.length w.1.1 w.1.2 (q.2.2.1, q.2.2.1, 0) 1)
        | _ => if w.1.1 = w.1.2 then (match q_rt w.1.1 q.2.2.1 q.2.2.1 with
          | some t => some (q_new (q_stk A s) (2, t.1, t.2, 1) none)
          | none => none) else none) else none
      | none => none)
    | none => none)
  | _ => none
theorem ct_f0 {c j ci n0 : Nat} (h : wd_kd c = (ci + 6, n0)) (hf : fw_fk (fw_ty ci j) = 0) : ct_X S c j = some (0, (S.1 c j).toInt) := by
  unfold ct_X
  rw [h]
  show (match fw_fk (fw_ty ci j) with | 0 => some (0, (S.1 c j).toInt) | 1 => some (1, (S.2.1 c j).toInt) | _ => (S.2.2 c j).map (fun t => (2, (t : Int)))) = _
  rw [hf]
  rfl
theorem ct_f1 {c j ci n0 : Nat} (h : wd_kd c = (ci + 6, n0)) (hf : fw_fk (fw_ty ci j) = 1) : ct_X S c j = some (1, (S.2.1 c j).toInt) := by
  unfold ct_X
  rw [h]
  show (match fw_fk (fw_ty ci j) with | 0 => some (0, (S.1 c j).toInt) | 1 => some (1, (S.2.1 c j).toInt) | _ => (S.2.2 c j).map (fun t => (2, (t : Int)))) = _
  rw [hf]
  rfl
theorem sp_getfield (C0 : fw_C p s0 m args meth c0 D tc A0 own cc nL) (hK : kd_ok kd N) {oc index : Nat} (ho : own = lk_own oc) (hdg : decode cc pc = .ok (.getfield index, 3)) (h : q_getf oc index A = some A') (H : as_in ad sm fl α0 S0 mod α A lv st S) (k : sp_K p l e0 R s0 m args below meth c0 Q D tc ad kd N nL A0 sm fl α0 S0 mod α n (pc + 3) A') : fw_W p l e0 R s0 m args below meth c0 Q D tc ad kd N nL A0 pc lv st S n := by
  unfold q_getf at h
  split at h
  · rename_i rv s hs
    split at h
    · rename_i q hq
      split at h
      · rename_i w hw
        split at h
        · rename_i hc
          obtain ⟨c, c1, c2, c3⟩ := lkf_at_in hq
          obtain ⟨a, d, g1, g2, g3⟩ := q_rk_in hw
          obtain ⟨kk, st', rfl, e1, e2, H2⟩ := as_popr (as_q H hs) g1 g2
          obtain ⟨f1, f2, f3, f4⟩ := g3 kk e2
          have hn : cl_n q.2.1 = c.2.2 := by unfold cl_n; rw [c1]
          have hkd : wd_kd kk = (q.2.1 + 6, c.2.2) := by rw [f4, ← hn, ← hc.1, ← hc.2.1]
          rw [← ho] at c3
          refine fw_getfield (ad := ad) (rest := st') (S := S) C0 (Nat.lt_of_lt_of_le f3 hK.1) ((hK.2 kk f3).trans hkd) c1 c2 (cl_ws c1) c3 hdg ?_
          split at h
          · rename_i hf
            cases h
            obtain ⟨n1, n2⟩ := q_nm_in hc.2.2 H2
            replace n1 : (α ++ [(0, (q.2.2.1 : Int))])[A.1.length]? = some (0, (q.2.2.1 : Int)) := n1
            obtain ⟨β, b1, b2⟩ := q_read_in (iv := A.1.length) (c1 := w.1.1) (c2 := w.1.2) (p := (q.2.2.1, q.2.2.1, 0)) (k := 0) n2 (al_le_app _ _ e1) n1 (by omega) (ct_f0 (j := q.2.2.1) hkd hf) rfl (fun _ => rfl) (fun z => absurd rfl z) f1 f2 ⟨Nat.le_refl _, Nat.le_refl _, by show 0 ∣ q.2.2.1 - q.2.2.1; rw [Nat.sub_self]; exact Nat.dvd_refl _⟩
            have ev : av_V ad sm (0, (S.1 kk q.2.2.1).toInt) = fw_v ad S kk q.2.2.1 0 := by show Value.int (Int32.ofInt _) = Value.int _; rw [Int32.ofInt_toInt]
            rw [hf, ← ev]
            exact k _ _ _ _ (al_le_app.trans b1) b2
          · rename_i hf
            cases h
            obtain ⟨n1, n2⟩ := q_nm_in hc.2.2 H2
            replace n1 : (α ++ [(0, (q.2.2.1 : Int))])[A.1.length]? = some (0, (q.2.2.1 : Int)) := n1
            obtain ⟨β, b1, b2⟩ := q_read_in (iv := A.1.length) (c1 := w.1.1) (c2 := w.1.2) (p := (q.2.2.1, q.2.2.1, 0)) (k := 1) n2 (al_le_app _ _ e1) n1 (by omega) (ct_f1 (j := q.2.2.1) hkd hf) rfl (fun z => by cases z) (fun _ => ⟨_, rfl⟩) f1 f2 ⟨Nat.le_refl _, Nat.le_refl _, by show 0 ∣ q.2.2.1 - q.2.2.1; rw [Nat.sub_self]; exact Nat.dvd_refl _⟩
            have ev : av_V ad sm (1, (S.2.1 kk q.2.2.1).toInt) = fw_v ad S kk q.2.2.1 1 := by show Value.long (Int64.ofInt _) = Value.long _; rw [Int64.ofInt_toInt]
            rw [hf, ← ev]
            exact k _ _ _ _ (al_le_app.trans b1) b2
          · rename_i h0 h1
            split at h
            · rename_i h11
              split at h
              · rename_i t ht
                cases h
                have hkk : kk = w.1.1 := by omega
                obtain ⟨t', t1, t2, t3⟩ := q_rt_in H2 ht (Nat.le_refl _) (Nat.le_refl _)
                have ev : fw_v ad S kk q.2.2.1 (fw_fk (fw_ty q.2.1 q.2.2.1)) = .ref (ad t') := by
                  unfold fw_v
                  split
                  · rename_i z; exact absurd z h0
                  · rename_i z; exact absurd z h1
                  · rw [hkk, t1]; rfl
                rw [ev]
                exact k _ _ _ _ al_le_app (as_pushr H2 ⟨rfl, (show 0 ≤ (t' : Int) by omega), (show (t.1 : Int) ≤ (t' : Int) by omega), (show (t' : Int) ≤ (t.2 : Int) by omega), av_one _⟩)
              · cases h
            · cases h
        · cases h
      · cases h
    · cases h
  · cases h
/-- may a number stand in a field of this type -/
def q_fit (t : FieldType) (a : av_T) : Bool := match t with
  | .int => a.1 == 0
  | .boolean => a.1 == 0 && decide (0 ≤ a.2.1) && decide (a.2.2.1 ≤ 1)
  | .long => a.1 == 1
  | _ => false
def q_fin (oc idx : Nat) : Bool := match lkf_at oc idx with
  | some q => (match vwCl[q.2.1]? with
    | some c => !(c.2.1 q.2.2.1).2.2.2
    | none => false)
  | none => false
def q_putf (ff : Nat → List md_T) (mod : List md_T) (oc idx : Nat) (A : as_T) : Option as_T := match A.2.2.1 with
  | xv :: rv :: s => (match lkf_at oc idx with
    | some q => (match q_rk A rv, A.1[xv]? with
      | some w, some a => if w.2.1 = q.2.1 + 6 ∧ w.2.2 = cl_n q.2.1 ∧ q.2.2.1 < 2147483648 ∧ q_fin oc idx = true ∧ q_fit (fw_ty q.2.1 q.2.2.1) a.1 = true then (match fw_fk (fw_ty q.2.1 q.2.2.1) with
        | 0 => q_wr ff mod (q_nm (q_stk A s) q.2.2.1) rv A.1.length xv w.1.1 w.1.2 (q.2.2.1, q.2.2.1, 0) a.1 true
        | 1 => q_wrl ff mod (q_nm (q_stk A s) q.2.2.1) rv A.1.length xv w.1.1 w.1.2 (q.2.2.1, q.2.2.1, 0)
        | _ => none) else none
      | _, _ => none)
    | none => none)
  | _ => none
theorem fit_0 {t : FieldType} {a : av_T} {X : av_X} (h : q_fit t a = true) (hX : av_in a X) (hf : fw_fk t = 0) : ∃ x : Int32, X = (0, x.toInt) ∧ av_V ad sm X = .int x ∧ narrow t (.int x) = .int x ∧ fits t (.int x) = true := by
  match t with
  | .int =>
    obtain ⟨x, h1, h2⟩ := av_V0 (ad := ad) (sm := sm) hX (by simpa [q_fit] using h)
    exact ⟨x, h1, h2, rfl, rfl⟩
  | .boolean =>
    simp only [q_fit, Bool.and_eq_true, beq_iff_eq, decide_eq_true_eq] at h
    obtain ⟨x, h1, h2⟩ := av_V0 (ad := ad) (sm := sm) hX h.1.1
    refine ⟨x, h1, h2, ?_⟩
    subst h1
    have g1 := hX.2.2.1
    have g2 := hX.2.2.2.1
    dsimp only at g1 g2
    have : x.toInt = 0 ∨ x.toInt = 1 := by omega
    rcases this with e | e
    · have : x = 0 := Int32.toInt_inj.mp (e.trans rfl)
      subst this; exact ⟨by decide, by decide⟩
    · have : x = 1 := Int32.toInt_inj.mp (e.trans rfl)
      subst this; exact ⟨by decide, by decide⟩
  | .long => simp [fw_fk] at hf
  | .byte => simp [q_fit] at h
  | .char => simp [q_fit] at h
  | .short => simp [q_fit] at h
  | .float => simp [q_fit] at h
  | .double => simp [q_fit] at h
  | .object _ => simp [q_fit] at h
  | .array _ => simp [q_fit] at h
theorem fit_1 {t : FieldType} {a : av_T} {X : av_X} (h : q_fit t a = true) (hX : av_in a X) (hf : fw_fk t = 1) : ∃ x : Int64, X = (1, x.toInt) ∧ av_V ad sm X = .long x ∧ narrow t (.long x) = .long x ∧ fits t (.long x) = true := by
  match t with
  | .long =>
    obtain ⟨x, h1, h2⟩ := av_V1 (ad := ad) (sm := sm) hX (by simpa [q_fit] using h)
    exact ⟨x, h1, h2, rfl, rfl⟩
  | .int => simp [fw_fk] at hf
  | .boolean => simp [fw_fk] at hf
  | .byte => simp [q_fit] at h
  | .char => simp [q_fit] at h
  | .short => simp [q_fit] at h
  | .float => simp [q_fit] at h
  | .double => simp [q_fit] at h
  | .object _ => simp [q_fit] at h
  | .array _ => simp [q_fit] at h
theorem fw_v_i {k j i t : Nat} {x : Int32} (h : i ≠ j) : fw_v ad (fw_i S k j x) k i t = fw_v ad S k i t := by
  unfold fw_v
  split <;> simp [fw_i, h]
theorem fw_v_l {k j i t : Nat} {x : Int64} (h : i ≠ j) : fw_v ad (fw_l S k j x) k i t = fw_v ad S k i t := by
  unfold fw_v
  split <;> simp [fw_l, h]
theorem sp_putfield (C0 : fw_C p s0 m args meth c0 D tc A0 own cc nL) (hK : kd_ok kd N) (hfl : fl_ok ff fl) {oc index : Nat} (ho : own = lk_own oc) (hdg : decode cc pc = .ok (.putfield index, 3)) (h : q_putf ff mod oc index A = some A') (H : as_in ad sm fl α0 S0 mod α A lv st S) (k : sp_K p l e0 R s0 m args below meth c0 Q D tc ad kd N nL A0 sm fl α0 S0 mod α n (pc + 3) A') : fw_W p l e0 R s0 m args below meth c0 Q D tc ad kd N nL A0 pc lv st S n := by
  unfold q_putf at h
  split at h
  · rename_i xv rv s hs
    split at h
    · rename_i q hq
      split at h
      · rename_i w a hw ha
        split at h
        · rename_i hc
          obtain ⟨c, c1, c2, c3⟩ := lkf_at_in hq
          have hfin : (c.2.1 q.2.2.1).2.2.2 = false := by
            have := hc.2.2.2.1
            unfold q_fin at this
            rw [hq] at this
            dsimp only at this
            rw [c1] at this
            simpa using this
          obtain ⟨X, st1, rfl, x1, H1⟩ := as_pop (as_q H hs)
          obtain ⟨a', x2, x3, -⟩ := en_some H.2.1 x1
          cases x2.symm.trans ha
          obtain ⟨b, d, g1, g2, g3⟩ := q_rk_in hw
          obtain ⟨kk, st', rfl, e1, e2, H2⟩ := as_popr H1 g1 g2
          obtain ⟨f1, f2, f3, f4⟩ := g3 kk e2
          have hn : cl_n q.2.1 = c.2.2 := by unfold cl_n; rw [c1]
          have hkd : wd_kd kk = (q.2.1 + 6, c.2.2) := by rw [f4, ← hn, ← hc.1, ← hc.2.1]
          rw [← ho] at c3
          obtain ⟨n1, n2⟩ := q_nm_in hc.2.2.1 H2
          replace n1 : (α ++ [(0, (q.2.2.1 : Int))])[A.1.length]? = some (0, (q.2.2.1 : Int)) := n1
          split at h
          · rename_i hf
            obtain ⟨x, rfl, v2, v3, v4⟩ := fit_0 (ad := ad) (sm := sm) hc.2.2.2.2 x3 hf
            rw [v2]
            have B := q_wr_in (c := kk) (j := q.2.2.1) (x := x) hfl h n2 f1 f2 ⟨Nat.le_refl _, Nat.le_refl _, by show 0 ∣ q.2.2.1 - q.2.2.1; rw [Nat.sub_self]; exact Nat.dvd_refl _⟩ x3 (fun _ => ⟨al_le_app _ _ e1, n1, al_le_app _ _ x1, by rw [ct_f0 hkd hf, fw_i_get]⟩)
            exact fw_putfield (v := .int x) (S' := fw_i S kk q.2.2.1 x) C0 (Nat.lt_of_lt_of_le f3 hK.1) ((hK.2 kk f3).trans hkd) c1 c2 (cl_ws c1) (cl_ty c1).1 (cl_ty c1).2 c3 hfin v3 v4 (by rw [hf]; show Value.int _ = _; rw [fw_i_get]) (fun i hi => fw_v_i hi) (fun a ha => fw_e_off (fw_i_off ha) rfl rfl) hdg (k _ _ _ _ al_le_app B)
          · rename_i hf
            obtain ⟨x, rfl, v2, v3, v4⟩ := fit_1 (ad := ad) (sm := sm) hc.2.2.2.2 x3 hf
            rw [v2]
            have B := q_wrl_in (c := kk) (j := q.2.2.1) (x := x) hfl h n2 f1 f2 ⟨Nat.le_refl _, Nat.le_refl _, by show 0 ∣ q.2.2.1 - q.2.2.1; rw [Nat.sub_self]; exact Nat.dvd_refl _⟩ (al_le_app _ _ e1) n1 (al_le_app _ _ x1) (by rw [ct_f1 hkd hf, fw_l_get])
            exact fw_putfield (v := .long x) (S' := fw_l S kk q.2.2.1 x) C0 (Nat.lt_of_lt_of_le f3 hK.1) ((hK.2 kk f3).trans hkd) c1 c2 (cl_ws c1) (cl_ty c1).1 (cl_ty c1).2 c3 hfin v3 v4 (by rw [hf]; show Value.long _ = _; rw [fw_l_get]) (fun i hi => fw_v_l hi) (fun a ha => fw_e_off rfl (fw_l_off ha) rfl) hdg (k _ _ _ _ al_le_app B)
          · cases h
        · cases h
      · cases h
    · cases h
  · cases h

end SF
