/-! ===== a store whose contents are right for reasons of their own ===== -/
section HS
variable {ff : Nat → List md_T} {fl : fl_T} {C : ct_T} {Cs : List ct_T} {y : mt_T} {l : Launch} {D : va_G} {tc : Nat → ClassId} {ad : Nat → Nat} {kd : Nat → Nat × Nat} {N : Nat} {sm : Nat → Nat} {xs : List av_X} {S : fw_S} {Q : State → Prop} {R : Room}
variable {p : Program} {e : Env} {s : State} {m : MethodId} {args : Array Value} {below : List Frame} {meth : Method} {c : Code} {sz : Nat}
variable {pc n : Nat} {lv : List (Nat × Value)} {st : List Value} {S1 : fw_S} {α : List av_X} {A : as_T} {mod : List md_T}
theorem hd_store (G : hd_C ff fl C Cs y l D tc ad kd N sm xs p s m args meth c sz) (hdg : decode y.2.1 pc = .ok (.iastore, 1)) {xv iv rv cc n0 : Nat} {ss : List Nat} {pp : Nat × Nat × Nat} {a : av_T} (hs : A.2.2.1 = xv :: iv :: rv :: ss)
    (hw : q_rk A rv = some ((cc, cc), (0, n0))) (hp : q_ix A iv n0 = some pp) (ha : q_av A xv 0 = some a) (H : as_in ad sm fl xs S mod α A lv st S1)
    (hgi : gi_in (fw_i S1 cc (nv α iv).toNat (Int32.ofInt (nv α xv)))) (hfr : fr_in mod S (fw_i S1 cc (nv α iv).toNat (Int32.ofInt (nv α xv))))
    (k : ∀ st', as_in ad sm fl xs S mod α (A.1, A.2.1, ss, [], A.2.2.2.2.1, [], [], [], none) lv st' (fw_i S1 cc (nv α iv).toNat (Int32.ofInt (nv α xv))) → fw_W p l e R s m args below meth c Q D tc ad kd N y.2.2.1 (fw_Af ad N sz) (pc + 1) lv st' (fw_i S1 cc (nv α iv).toNat (Int32.ofInt (nv α xv))) n) :
    fw_W p l e R s m args below meth c Q D tc ad kd N y.2.2.1 (fw_Af ad N sz) pc lv st S1 n := by
  obtain ⟨X, i, c', st', rfl, g1, g2, g3, g4, g5, g6, l1, l2, l3, l4, i1, i2, i3⟩ := as_pop3 (w := ((cc, cc), (0, n0))) hs hw hp ha H
  obtain ⟨x, e1, e2⟩ := av_V0 (ad := ad) (sm := sm) g2 g3
  rw [e2]
  subst e1
  dsimp only at l1 l2 l4
  have ec : c' = cc := by omega
  subst ec
  have n1 : nv α iv = i.toInt := nv_at g4
  have n2 : nv α xv = x.toInt := nv_at g1
  have hK := G.2.2.1.1
  rw [n1, n2, Int32.ofInt_toInt] at hgi hfr k
  refine fw_iastore G.1 (by have := hK.1; omega) ((hK.2 c' l3).trans l4) i1 hdg ?_
  rw [clamp_eq]
  refine k st' ?_
  obtain ⟨h1, h2, h3, h4, h5, h6, h7, h8, h9, h10, h11, h12⟩ := g6
  exact ⟨h1, h2, h3, h4, fun q hq => by (exfalso; exact List.not_mem_nil hq), h6, fun q hq => by (exfalso; exact List.not_mem_nil hq), fun q hq => by (exfalso; exact List.not_mem_nil hq), fun q hq => by (exfalso; exact List.not_mem_nil hq), hgi, hfr, trivial⟩
theorem hd_gpS {na : Nat} {q : an_T} (h : q_arr na none n A q = true) (hna : xs.length = na) (H : as_in ad sm fl xs S mod α A lv st S1) :
    ∃ α', as_in ad sm fl xs S mod α' q.2.2.1 lv st S1 ∧ ∀ i v, (q_mu na q.2.2.1 A)[i]? = some v → nv α' i = nv α v := ⟨_, hd_arr h hna H, fun _ _ hv => nv_mu hv⟩
end HS
/-- what holds for good of the row s, one place written -/
theorem gi_put {S1 : fw_S} {j : Nat} {x : Int32} (h : gi_in S1) (hx : ∀ q ∈ wd_gt, q.1 = (806, 806) → pg_in q.2.1 j → av_in q.2.2 (0, x.toInt)) (hc : wd_gt.all (fun q => decide (q.1.2 < 806) || decide (806 < q.1.1) || q.1 == (806, 806)) = true) : gi_in (fw_i S1 806 j x) := by
  refine ⟨fun q hq k i h1 h2 h3 => ?_, h.2⟩
  by_cases e : k = 806 ∧ i = j
  · obtain ⟨e1, e2⟩ := e
    subst e1
    subst e2
    rw [fw_i_get]
    have hb := List.all_eq_true.mp hc q hq
    simp only [Bool.or_eq_true, decide_eq_true_eq, beq_iff_eq] at hb
    rcases hb with (g | g) | g
    · omega
    · omega
    · exact hx q hq g h3
  · have : (fw_i S1 806 j x).1 k i = S1.1 k i := by
      show (if k = 806 ∧ i = j then x else S1.1 k i) = S1.1 k i
      rw [if_neg e]
    rw [this]
    exact h.1 q hq k i h1 h2 h3
theorem fr_put {mod : List md_T} {S S1 : fw_S} {c j : Nat} {x : Int32} (h : fr_in mod S S1) (hx : md_at mod c j ∨ x = S.1 c j) : fr_in mod S (fw_i S1 c j x) := by
  refine ⟨fun k i hk => ?_, h.2⟩
  obtain ⟨h1, h2⟩ := h.1 k i hk
  refine ⟨?_, h2⟩
  show (if k = c ∧ i = j then x else S1.1 k i) = S.1 k i
  by_cases e : k = c ∧ i = j
  · rw [if_pos e, e.1, e.2]
    rcases hx with g | g
    · exact absurd (by rw [e.1, e.2]; exact g) hk
    · exact g
  · rw [if_neg e]
    exact h1
theorem wd_gt_c : wd_gt.all (fun q => decide (q.1.2 < 806) || decide (806 < q.1.1) || q.1 == (806, 806)) = true := by decide +kernel
/-- the contents of the row s, from what holds for good -/
theorem gi_gd {S : fw_S} (h : gi_in S) (h1 : crewF (S.1 806)) (h2 : stF (S.1 806)) (h3 : blF (S.1 806) 0) : gdF (S.1 806) :=
  ⟨fun q hq hc j hj => h.1 q hq 806 j (by rw [hc]; exact Nat.le_refl _) (by rw [hc]; exact Nat.le_refl _) hj, h1, h2, h3⟩
abbrev kh_saves_y : mt_T := (⟨"UtilityWorksModel", "saves", "()V"⟩, prog_14_method_11_code, 2, none, 12, 1, 0, 36038, 36037, 16000, 21014)
def kh_saves : ct_T := (555, [(2, 805, 805, 0)], [], [510, 513, 515], [(0, (0, 0, 0, 0), [(2, 805, 805, 0)], [], ([503, 510, 513, 515], []))], [((808, 808), (0, 4499, 1)), ((809, 809), (0, 3599, 1))], 0, 0, 0)
def kh_saves_a2 : an_T := (2, 0, ([((2, 805, 805, 0), none), ((0, 0, 9999, 1), none)], [(0, 0), (1, 1)], [], [], [], [], [], [510, 513, 515], none), [])
def kh_saves_a29 : an_T := (29, 0, ([((2, 805, 805, 0), none), ((0, 0, 9999, 1), none)], [(0, 0), (1, 1)], [], [], [], [], [], [510, 513, 515], none), [])
def kh_saves_b0_0 : sg_T := (2, 0, ([((2, 805, 805, 0), none), ((0, 0, 0, 0), none)], [(1, 1), (0, 0)], [], [], [], [], [], [510, 513, 515], some []))
def kh_saves_b2_0 : sg_T := (29, 0, ([((2, 805, 805, 0), none), ((0, 4500, 9999, 1), none), ((0, 4500, 4500, 0), none), ((0, 0, 0, 0), none)], [(1, 3), (0, 0)], [], [], [], [(200000, 2, 1)], [], [510, 513, 515], some []))
def kh_saves_b2_1 : sg_T := (2, 0, ([((2, 805, 805, 0), none), ((0, 0, 4499, 1), none), ((0, 4500, 4500, 0), none), ((2, 808, 808, 1), none), ((2, 806, 806, 1), none), ((0, (-2147483648), 2147483647, 1), none), ((0, 1, 4500, 1), some (1, 1))], [(1, 6), (0, 0)], [], [(3, 1, 5), (4, 1, 5)], [], [(800005, 4, 1), (100000, 1, 2)], [], [510, 513, 515], some [(3, 1, 5)]))
def kh_saves_b29_0 : sg_T := (54, 0, ([((2, 805, 805, 0), none), ((0, 3600, 9999, 1), none), ((0, 3600, 3600, 0), none)], [(0, 0), (1, 1)], [], [], [], [(200000, 2, 1)], [], [510, 513, 515], some []))
def kh_saves_b29_1 : sg_T := (29, 0, ([((2, 805, 805, 0), none), ((0, 0, 3599, 1), none), ((0, 3600, 3600, 0), none), ((2, 809, 809, 1), none), ((2, 807, 807, 1), none), ((1, (-9223372036854775808), 9223372036854775807, 1), none), ((0, 1, 3600, 1), some (1, 1))], [(1, 6), (0, 0)], [], [], [], [(800005, 4, 1), (100000, 1, 2)], [], [510, 513, 515], none))
def kh_saves_I (l : Launch) (D : va_G) (tc : Nat → ClassId) (ad : Nat → Nat) (kd : Nat → Nat × Nat) (N : Nat) (sm : Nat → Nat) (xs : List av_X) (S : fw_S) (p : Program) (e : Env) (s : State) (m : MethodId) (args : Array Value) (below : List Frame) (meth : Method) (c : Code) (sz : Nat) (k : Nat) : Prop := (∀ (α : List av_X) (lv : List (Nat × Value)) (st : List Value) (S1 : fw_S), as_in ad sm wd_fl2 xs S kh_saves.2.2.2.2.2.1 α kh_saves_a2.2.2.1 lv st S1 → (∀ j : Nat, (j : Int) < nv α 1 → S1.1 808 j = S1.1 806 j) → 100000 + (4500 - nv α 1).toNat < k → hd_W wd_fl2 kh_saves kh_saves_y l D tc ad kd N sm xs S p e s m args below meth c sz 2 lv st S1 0) ∧ (∀ (α : List av_X) (lv : List (Nat × Value)) (st : List Value) (S1 : fw_S), as_in ad sm wd_fl2 xs S kh_saves.2.2.2.2.2.1 α kh_saves_a29.2.2.1 lv st S1 → (∀ j : Nat, (j : Int) < 4500 → S1.1 808 j = S1.1 806 j) → (3600 - nv α 1).toNat < k → hd_W wd_fl2 kh_saves kh_saves_y l D tc ad kd N sm xs S p e s m args below meth c sz 29 lv st S1 0) ∧ True
set_option maxHeartbeats 16000000 in
set_option maxRecDepth 8000 in
theorem kh_saves_h2 {l : Launch} {D : va_G} {tc : Nat → ClassId} {ad : Nat → Nat} {kd : Nat → Nat × Nat} {N : Nat} {sm : Nat → Nat} {xs : List av_X} {S : fw_S} {p : Program} {e : Env} {s : State} {m : MethodId} {args : Array Value} {below : List Frame} {meth : Method} {c : Code} {sz : Nat} {lvE : List (Nat × Value)} (G : hd_C wd_ff2 wd_fl2 kh_saves [] kh_saves_y l D tc ad kd N sm xs p s m args meth c sz) (H0 : as_in ad sm wd_fl2 xs S kh_saves.2.2.2.2.2.1 xs (hd_0 kh_saves) lvE [] S) {k : Nat} (ih : kh_saves_I l D tc ad kd N sm xs S p e s m args below meth c sz k) : (∀ (α : List av_X) (lv : List (Nat × Value)) (st : List Value) (S1 : fw_S), as_in ad sm wd_fl2 xs S kh_saves.2.2.2.2.2.1 α kh_saves_a2.2.2.1 lv st S1 → (∀ j : Nat, (j : Int) < nv α 1 → S1.1 808 j = S1.1 806 j) → 100000 + (4500 - nv α 1).toNat < k + 1 → hd_W wd_fl2 kh_saves kh_saves_y l D tc ad kd N sm xs S p e s m args below meth c sz 2 lv st S1 0) := by
  have hx : xs.length = 1 := by rw [H0.2.1.1]; rfl
  have q510 : crewF (S.1 806) := by
    have h := H0.2.2.2.2.2.2.2.2.1 510 (by decide +kernel)
    rw [wd_fl2, if_neg (by decide)] at h
    exact h
  have q513 : stF (S.1 806) := by
    have h := H0.2.2.2.2.2.2.2.2.1 513 (by decide +kernel)
    rw [wd_fl2, if_neg (by decide)] at h
    exact h
  have q515 : blF (S.1 806) 0 := by
    have h := H0.2.2.2.2.2.2.2.2.1 515 (by decide +kernel)
    rw [wd_fl2, if_neg (by decide)] at h
    exact h
  intro α lv st S1 H hp hk
  obtain ⟨α1, hle, Hr⟩ := as_recM (pl := []) [((808, 808), (0, 4499, 1))] (by decide +kernel) H
  have hf := H.2.2.2.2.2.2.2.2.2.2.1
  have hl1 : α1.length = 2 := by rw [Hr.2.1.1]; rfl
  have hl0 : α.length = 2 := by rw [H.2.1.1]; rfl
  have hxa : al_le xs α1 := H.1.trans hle
  obtain ⟨g1, -, g3, g4, -⟩ := as_fx Hr
  have g0 : (805 ≤ nv α1 0 ∧ nv α1 0 ≤ 805) ∧ (0 ≤ nv α1 1 ∧ nv α1 1 ≤ 9999) ∧ True := by
    refine ⟨by have h := (en_nv (i := 0) Hr.2.1 rfl).2; exact h, by have h := (en_nv (i := 1) Hr.2.1 rfl).2; exact h, trivial⟩
  have r0 : nv α1 0 = nv α 0 := nv_le hle (by omega)
  have r1 : nv α1 1 = nv α 1 := nv_le hle (by omega)
  refine hd_segM G (na := 2) (fuel := 600) (first := true) (Bs := [kh_saves_b2_0, kh_saves_b2_1]) (by decide +kernel) hl1 Hr ?_
  intro q hq β lv' st' S' H1
  simp only [List.mem_cons, List.not_mem_nil, or_false] at hq
  rcases hq with rfl | rfl
  · obtain ⟨f1, f2, f3, f4, f5⟩ := as_fx H1
    simp only [kh_saves_b2_0, fx_env, fx_c, fx_ne, fx_hf, wl_S, Nat.zero_add, Nat.reduceAdd, Nat.reduceDiv, Nat.reduceMod, List.getElem?_cons_zero, List.getElem?_cons_succ, if_true, and_true, true_and] at f1 f2 f3 f4 f5
    have fe0 : nv β 0 = 805 := by omega
    have fe2 : nv β 2 = 4500 := by omega
    have fe3 : nv β 3 = 0 := by omega
    try simp only [fe0, fe2, fe3, Int.reduceToNat] at f2 f3 f4 f5
    have s0 : nv β 0 = nv α1 0 := nv_le H1.1 (by omega)
    have s1 : nv β 1 = nv α1 1 := nv_le H1.1 (by omega)
    have c0 := f2
    obtain ⟨α', Ha, hm⟩ := hd_gpM (q := kh_saves_a29) (n := 0) (by decide +kernel) hx H1 (by decide +kernel) hxa hf
    have hfr := H1.2.2.2.2.2.2.2.2.2.2.1
    have m0 : nv α' 0 = nv β 0 := hm 0 0 rfl
    have m1 : nv α' 1 = nv β 3 := hm 1 3 rfl
    subst S'
    refine ih.2.1 _ _ _ _ Ha ?_ ?_
    · intro j hj; exact hp j (by omega)
    · omega
  · obtain ⟨f1, f2, f3, f4, f5⟩ := as_fx H1
    simp only [kh_saves_b2_1, fx_env, fx_c, fx_ne, fx_hf, wl_S, Nat.zero_add, Nat.reduceAdd, Nat.reduceDiv, Nat.reduceMod, List.getElem?_cons_zero, List.getElem?_cons_succ, if_true, and_true, true_and] at f1 f2 f3 f4 f5
    have fe0 : nv β 0 = 805 := by omega
    have fe2 : nv β 2 = 4500 := by omega
    have fe3 : nv β 3 = 808 := by omega
    have fe4 : nv β 4 = 806 := by omega
    try simp only [fe0, fe2, fe3, fe4, Int.reduceToNat] at f2 f3 f4 f5
    have s0 : nv β 0 = nv α1 0 := nv_le H1.1 (by omega)
    have s1 : nv β 1 = nv α1 1 := nv_le H1.1 (by omega)
    obtain ⟨c0, c1⟩ := f2
    obtain ⟨α', Ha, hm⟩ := hd_gpM (q := kh_saves_a2) (n := 0) (by decide +kernel) hx H1 (by decide +kernel) hxa hf
    have hfr := H1.2.2.2.2.2.2.2.2.2.2.1
    have m0 : nv α' 0 = nv β 0 := hm 0 0 rfl
    have m1 : nv α' 1 = nv β 6 := hm 1 6 rfl
    subst S'
    have o0 := old_0 c0 rfl
    have hv : Int32.ofInt (nv β 5) = S1.1 806 (nv β 1).toNat := by rw [← o0, Int32.ofInt_toInt]
    refine ih.1 _ _ _ _ Ha ?_ ?_
    · intro j hj
      rw [m1] at hj
      have e6 : (fw_i S1 808 (nv β 1).toNat (Int32.ofInt (nv β 5))).1 806 = S1.1 806 := fw_i_ne (by decide)
      rw [fw_i_row, e6]
      by_cases e : j = (nv β 1).toNat
      · rw [if_pos e, hv, e]
      · rw [if_neg e]; exact hp j (by omega)
    · omega
set_option maxHeartbeats 16000000 in
set_option maxRecDepth 8000 in
theorem kh_saves_h29 {l : Launch} {D : va_G} {tc : Nat → ClassId} {ad : Nat → Nat} {kd : Nat → Nat × Nat} {N : Nat} {sm : Nat → Nat} {xs : List av_X} {S : fw_S} {p : Program} {e : Env} {s : State} {m : MethodId} {args : Array Value} {below : List Frame} {meth : Method} {c : Code} {sz : Nat} {lvE : List (Nat × Value)} (G : hd_C wd_ff2 wd_fl2 kh_saves [] kh_saves_y l D tc ad kd N sm xs p s m args meth c sz) (H0 : as_in ad sm wd_fl2 xs S kh_saves.2.2.2.2.2.1 xs (hd_0 kh_saves) lvE [] S) {k : Nat} (ih : kh_saves_I l D tc ad kd N sm xs S p e s m args below meth c sz k) : (∀ (α : List av_X) (lv : List (Nat × Value)) (st : List Value) (S1 : fw_S), as_in ad sm wd_fl2 xs S kh_saves.2.2.2.2.2.1 α kh_saves_a29.2.2.1 lv st S1 → (∀ j : Nat, (j : Int) < 4500 → S1.1 808 j = S1.1 806 j) → (3600 - nv α 1).toNat < k + 1 → hd_W wd_fl2 kh_saves kh_saves_y l D tc ad kd N sm xs S p e s m args below meth c sz 29 lv st S1 0) := by
  have hx : xs.length = 1 := by rw [H0.2.1.1]; rfl
  have q510 : crewF (S.1 806) := by
    have h := H0.2.2.2.2.2.2.2.2.1 510 (by decide +kernel)
    rw [wd_fl2, if_neg (by decide)] at h
    exact h
  have q513 : stF (S.1 806) := by
    have h := H0.2.2.2.2.2.2.2.2.1 513 (by decide +kernel)
    rw [wd_fl2, if_neg (by decide)] at h
    exact h
  have q515 : blF (S.1 806) 0 := by
    have h := H0.2.2.2.2.2.2.2.2.1 515 (by decide +kernel)
    rw [wd_fl2, if_neg (by decide)] at h
    exact h
  intro α lv st S1 H hp hk
  obtain ⟨α1, hle, Hr⟩ := as_recM (pl := []) [((809, 809), (0, 3599, 1))] (by decide +kernel) H
  have hf := H.2.2.2.2.2.2.2.2.2.2.1
  have hl1 : α1.length = 2 := by rw [Hr.2.1.1]; rfl
  have hl0 : α.length = 2 := by rw [H.2.1.1]; rfl
  have hxa : al_le xs α1 := H.1.trans hle
  obtain ⟨g1, -, g3, g4, -⟩ := as_fx Hr
  have g0 : (805 ≤ nv α1 0 ∧ nv α1 0 ≤ 805) ∧ (0 ≤ nv α1 1 ∧ nv α1 1 ≤ 9999) ∧ True := by
    refine ⟨by have h := (en_nv (i := 0) Hr.2.1 rfl).2; exact h, by have h := (en_nv (i := 1) Hr.2.1 rfl).2; exact h, trivial⟩
  have r0 : nv α1 0 = nv α 0 := nv_le hle (by omega)
  have r1 : nv α1 1 = nv α 1 := nv_le hle (by omega)
  refine hd_segM G (na := 2) (fuel := 600) (first := true) (Bs := [kh_saves_b29_0, kh_saves_b29_1]) (by decide +kernel) hl1 Hr ?_
  intro q hq β lv' st' S' H1
  simp only [List.mem_cons, List.not_mem_nil, or_false] at hq
  rcases hq with rfl | rfl
  · obtain ⟨f1, f2, f3, f4, f5⟩ := as_fx H1
    simp only [kh_saves_b29_0, fx_env, fx_c, fx_ne, fx_hf, wl_S, Nat.zero_add, Nat.reduceAdd, Nat.reduceDiv, Nat.reduceMod, List.getElem?_cons_zero, List.getElem?_cons_succ, if_true, and_true, true_and] at f1 f2 f3 f4 f5
    have fe0 : nv β 0 = 805 := by omega
    have fe2 : nv β 2 = 3600 := by omega
    try simp only [fe0, fe2, Int.reduceToNat] at f2 f3 f4 f5
    have s0 : nv β 0 = nv α1 0 := nv_le H1.1 (by omega)
    have s1 : nv β 1 = nv α1 1 := nv_le H1.1 (by omega)
    have c0 := f2
    have e6 : S1.1 806 = S.1 806 := fr_row hf 806 (by decide +kernel)
    have h0 := gi_gd H0.2.2.2.2.2.2.2.2.2.1 q510 q513 q515
    have hw : wasF S' := by
      rw [f5]
      have hq : ∀ j, j < 4500 → S1.1 808 j = S.1 806 j := fun j hj => by rw [hp j (by omega), e6]
      refine ⟨gdF_eq hq h0, fun j hj => ?_, fun j hj hj2 => ?_⟩
      · rw [hq j (by omega), e6]
      · rw [hq j (by omega), e6]
    have hq6 : S'.1 806 = S.1 806 := by rw [f5]; exact e6
    exact hd_run G (ss := []) (fuel := 20) (by decide +kernel) (as_fl_in (f := [503, 510, 513, 515]) (as_backM H1 (by decide +kernel) hxa hf) (fun g hg => by
      rcases List.mem_cons.mp hg with rfl | hg
      · rw [wd_fl2, if_neg (by decide)]; exact hw
      rcases List.mem_cons.mp hg with rfl | hg
      · rw [wd_fl2, if_neg (by decide)]; show crewF (S'.1 806); rw [hq6]; exact q510
      rcases List.mem_cons.mp hg with rfl | hg
      · rw [wd_fl2, if_neg (by decide)]; show stF (S'.1 806); rw [hq6]; exact q513
      rcases List.mem_singleton.mp hg with rfl
      rw [wd_fl2, if_neg (by decide)]; show blF (S'.1 806) 0; rw [hq6]; exact q515))
  · obtain ⟨f1, f2, f3, f4, f5⟩ := as_fx H1
    simp only [kh_saves_b29_1, fx_env, fx_c, fx_ne, fx_hf, wl_S, Nat.zero_add, Nat.reduceAdd, Nat.reduceDiv, Nat.reduceMod, List.getElem?_cons_zero, List.getElem?_cons_succ, if_true, and_true, true_and] at f1 f2 f3 f4 f5
    have fe0 : nv β 0 = 805 := by omega
    have fe2 : nv β 2 = 3600 := by omega
    have fe3 : nv β 3 = 809 := by omega
    have fe4 : nv β 4 = 807 := by omega
    try simp only [fe0, fe2, fe3, fe4, Int.reduceToNat] at f2 f3 f4 f5
    have s0 : nv β 0 = nv α1 0 := nv_le H1.1 (by omega)
    have s1 : nv β 1 = nv α1 1 := nv_le H1.1 (by omega)
    obtain ⟨c0, c1⟩ := f2
    obtain ⟨α', Ha, hm⟩ := hd_gpM (q := kh_saves_a29) (n := 0) (by decide +kernel) hx H1 (by decide +kernel) hxa hf
    have hfr := H1.2.2.2.2.2.2.2.2.2.2.1
    have m0 : nv α' 0 = nv β 0 := hm 0 0 rfl
    have m1 : nv α' 1 = nv β 6 := hm 1 6 rfl
    have e8 := fr_row hfr 808 (by decide +kernel)
    have e6 := fr_row hfr 806 (by decide +kernel)
    refine ih.2.1 _ _ _ _ Ha ?_ ?_
    · intro j hj; rw [e8, e6]; exact hp j hj
    · omega
set_option maxHeartbeats 16000000 in
set_option maxRecDepth 8000 in
theorem kh_saves_ok : ct_ok wd_fl2 kh_saves := ct_hand (ff := wd_ff2) (y := kh_saves_y) (Cs := []) wd_fl2_ok rfl (List.forall_mem_nil _) (by decide +kernel) (fun l D tc ad kd N sm xs S p e s m args below meth c sz lv G H0 => by
  have hx : xs.length = 1 := by rw [H0.2.1.1]; rfl
  have q510 : crewF (S.1 806) := by
    have h := H0.2.2.2.2.2.2.2.2.1 510 (by decide +kernel)
    rw [wd_fl2, if_neg (by decide)] at h
    exact h
  have q513 : stF (S.1 806) := by
    have h := H0.2.2.2.2.2.2.2.2.1 513 (by decide +kernel)
    rw [wd_fl2, if_neg (by decide)] at h
    exact h
  have q515 : blF (S.1 806) 0 := by
    have h := H0.2.2.2.2.2.2.2.2.1 515 (by decide +kernel)
    rw [wd_fl2, if_neg (by decide)] at h
    exact h
  have hP : ∀ (k : Nat), kh_saves_I l D tc ad kd N sm xs S p e s m args below meth c sz k := by
    intro k
    induction k with
    | zero => exact ⟨fun _ _ _ _ _ _ h => absurd h (Nat.not_lt_zero _), fun _ _ _ _ _ _ h => absurd h (Nat.not_lt_zero _), trivial⟩
    | succ k ih => exact ⟨kh_saves_h2 G H0 ih, kh_saves_h29 G H0 ih, trivial⟩
  obtain ⟨α1, hle, Hr⟩ := as_recM (pl := []) [] (by decide +kernel) H0
  have hf := H0.2.2.2.2.2.2.2.2.2.2.1
  have hl1 : α1.length = 1 := by rw [Hr.2.1.1]; rfl
  have hl0 : xs.length = 1 := by rw [H0.2.1.1]; rfl
  have hxa : al_le xs α1 := H0.1.trans hle
  obtain ⟨g1, -, g3, g4, -⟩ := as_fx Hr
  have g0 : (805 ≤ nv α1 0 ∧ nv α1 0 ≤ 805) ∧ True := by
    refine ⟨by have h := (en_nv (i := 0) Hr.2.1 rfl).2; exact h, trivial⟩
  have r0 : nv α1 0 = nv xs 0 := nv_le hle (by omega)
  refine hd_segM G (na := 1) (fuel := 600) (first := true) (Bs := [kh_saves_b0_0]) (by decide +kernel) hl1 Hr ?_
  intro q hq β lv' st' S' H1
  simp only [List.mem_cons, List.not_mem_nil, or_false] at hq
  rcases hq with rfl
  · obtain ⟨f1, f2, f3, f4, f5⟩ := as_fx H1
    simp only [kh_saves_b0_0, fx_env, fx_c, fx_ne, fx_hf, wl_S, Nat.zero_add, Nat.reduceAdd, Nat.reduceDiv, Nat.reduceMod, List.getElem?_cons_zero, List.getElem?_cons_succ, if_true, and_true, true_and] at f1 f2 f3 f4 f5
    have fe0 : nv β 0 = 805 := by omega
    have fe1 : nv β 1 = 0 := by omega
    try simp only [fe0, fe1, Int.reduceToNat] at f2 f3 f4 f5
    have s0 : nv β 0 = nv α1 0 := nv_le H1.1 (by omega)
    obtain ⟨α', Ha, hm⟩ := hd_gpM (q := kh_saves_a2) (n := 0) (by decide +kernel) hx H1 (by decide +kernel) hxa hf
    have hfr := H1.2.2.2.2.2.2.2.2.2.2.1
    have m0 : nv α' 0 = nv β 0 := hm 0 0 rfl
    have m1 : nv α' 1 = nv β 1 := hm 1 1 rfl
    subst S'
    refine (hP _).1 _ _ _ _ Ha ?_ (Nat.lt_succ_self _)
    · intro j hj; rw [m1] at hj; omega)
abbrev kh_restores_y : mt_T := (⟨"UtilityWorksModel", "restores", "()V"⟩, prog_14_method_12_code, 2, none, 12, 1, 0, 36046, 36045, 16002, 21014)
def kh_restores : ct_T := (557, [(2, 805, 805, 0)], [], [503], [(0, (0, 0, 0, 0), [(2, 805, 805, 0)], [], ([510, 513, 515], []))], [((806, 806), (8, 499, 1)), ((806, 806), (516, 4499, 1)), ((807, 807), (0, 3599, 1))], 0, 0, 0)
def kh_restores_a2 : an_T := (2, 0, ([((2, 805, 805, 0), none), ((0, 0, 9999, 1), none)], [(0, 0), (1, 1)], [], [], [], [], [], [], none), [])
def kh_restores_a20 : an_T := (20, 0, ([((2, 805, 805, 0), none), ((0, 0, 4499, 1), none), ((0, (-2147483648), 2147483647, 1), none), ((0, 0, 4499, 1), none), ((2, 806, 806, 1), none)], [(0, 0), (1, 1)], [2, 3, 4], [], [], [], [], [], none), [])
def kh_restores_a21 : an_T := (21, 0, ([((2, 805, 805, 0), none), ((0, 0, 4499, 1), none)], [(0, 0), (1, 1)], [], [], [], [], [], [], none), [])
def kh_restores_a29 : an_T := (29, 0, ([((2, 805, 805, 0), none), ((0, 0, 9999, 1), none)], [(0, 0), (1, 1)], [], [], [], [], [], [], none), [])
def kh_restores_b0_0 : sg_T := (2, 0, ([((2, 805, 805, 0), none), ((0, 0, 0, 0), none)], [(1, 1), (0, 0)], [], [], [], [], [], [503], some []))
def kh_restores_b2_0 : sg_T := (29, 0, ([((2, 805, 805, 0), none), ((0, 4500, 9999, 1), none), ((0, 4500, 4500, 0), none), ((0, 0, 0, 0), none)], [(1, 3), (0, 0)], [], [], [], [(200000, 2, 1)], [], [], some []))
def kh_restores_b2_1 : sg_T := (20, 0, ([((2, 805, 805, 0), none), ((0, 0, 4499, 1), none), ((0, 4500, 4500, 0), none), ((2, 806, 806, 1), none), ((2, 808, 808, 1), none), ((0, (-2147483648), 2147483647, 1), none)], [(0, 0), (1, 1)], [5, 1, 3], [(4, 1, 5)], [], [(800005, 4, 1), (100000, 1, 2)], [], [], some []))
def kh_restores_b21_0 : sg_T := (2, 0, ([((2, 805, 805, 0), none), ((0, 0, 4499, 1), none), ((0, 1, 4500, 1), some (1, 1))], [(1, 2), (0, 0)], [], [], [], [], [], [], some []))
def kh_restores_b29_0 : sg_T := (54, 0, ([((2, 805, 805, 0), none), ((0, 3600, 9999, 1), none), ((0, 3600, 3600, 0), none)], [(0, 0), (1, 1)], [], [], [], [(200000, 2, 1)], [], [], some []))
def kh_restores_b29_1 : sg_T := (29, 0, ([((2, 805, 805, 0), none), ((0, 0, 3599, 1), none), ((0, 3600, 3600, 0), none), ((2, 807, 807, 1), none), ((2, 809, 809, 1), none), ((1, (-9223372036854775808), 9223372036854775807, 1), none), ((0, 1, 3600, 1), some (1, 1))], [(1, 6), (0, 0)], [], [], [], [(800005, 4, 1), (100000, 1, 2)], [], [], none))
def kh_restores_I (l : Launch) (D : va_G) (tc : Nat → ClassId) (ad : Nat → Nat) (kd : Nat → Nat × Nat) (N : Nat) (sm : Nat → Nat) (xs : List av_X) (S : fw_S) (p : Program) (e : Env) (s : State) (m : MethodId) (args : Array Value) (below : List Frame) (meth : Method) (c : Code) (sz : Nat) (k : Nat) : Prop := (∀ (α : List av_X) (lv : List (Nat × Value)) (st : List Value) (S1 : fw_S), as_in ad sm wd_fl2 xs S kh_restores.2.2.2.2.2.1 α kh_restores_a2.2.2.1 lv st S1 → (∀ j : Nat, (j : Int) < nv α 1 → S1.1 806 j = S1.1 808 j) → 100000 + (4500 - nv α 1).toNat * 3 + 2 < k → hd_W wd_fl2 kh_restores kh_restores_y l D tc ad kd N sm xs S p e s m args below meth c sz 2 lv st S1 0) ∧ (∀ (α : List av_X) (lv : List (Nat × Value)) (st : List Value) (S1 : fw_S), as_in ad sm wd_fl2 xs S kh_restores.2.2.2.2.2.1 α kh_restores_a20.2.2.1 lv st S1 → ((∀ j : Nat, (j : Int) < nv α 1 → S1.1 806 j = S1.1 808 j) ∧ nv α 2 = (S1.1 808 (nv α 3).toNat).toInt ∧ nv α 3 = nv α 1) → 100000 + (4500 - nv α 1).toNat * 3 + 1 < k → hd_W wd_fl2 kh_restores kh_restores_y l D tc ad kd N sm xs S p e s m args below meth c sz 20 lv st S1 0) ∧ (∀ (α : List av_X) (lv : List (Nat × Value)) (st : List Value) (S1 : fw_S), as_in ad sm wd_fl2 xs S kh_restores.2.2.2.2.2.1 α kh_restores_a21.2.2.1 lv st S1 → (∀ j : Nat, (j : Int) < nv α 1 + 1 → S1.1 806 j = S1.1 808 j) → 100000 + (4500 - nv α 1).toNat * 3 < k → hd_W wd_fl2 kh_restores kh_restores_y l D tc ad kd N sm xs S p e s m args below meth c sz 21 lv st S1 0) ∧ (∀ (α : List av_X) (lv : List (Nat × Value)) (st : List Value) (S1 : fw_S), as_in ad sm wd_fl2 xs S kh_restores.2.2.2.2.2.1 α kh_restores_a29.2.2.1 lv st S1 → (∀ j : Nat, (j : Int) < 4500 → S1.1 806 j = S1.1 808 j) → (3600 - nv α 1).toNat < k → hd_W wd_fl2 kh_restores kh_restores_y l D tc ad kd N sm xs S p e s m args below meth c sz 29 lv st S1 0) ∧ True
set_option maxHeartbeats 16000000 in
set_option maxRecDepth 8000 in
theorem kh_restores_h2 {l : Launch} {D : va_G} {tc : Nat → ClassId} {ad : Nat → Nat} {kd : Nat → Nat × Nat} {N : Nat} {sm : Nat → Nat} {xs : List av_X} {S : fw_S} {p : Program} {e : Env} {s : State} {m : MethodId} {args : Array Value} {below : List Frame} {meth : Method} {c : Code} {sz : Nat} {lvE : List (Nat × Value)} (G : hd_C wd_ff2 wd_fl2 kh_restores [] kh_restores_y l D tc ad kd N sm xs p s m args meth c sz) (H0 : as_in ad sm wd_fl2 xs S kh_restores.2.2.2.2.2.1 xs (hd_0 kh_restores) lvE [] S) {k : Nat} (ih : kh_restores_I l D tc ad kd N sm xs S p e s m args below meth c sz k) : (∀ (α : List av_X) (lv : List (Nat × Value)) (st : List Value) (S1 : fw_S), as_in ad sm wd_fl2 xs S kh_restores.2.2.2.2.2.1 α kh_restores_a2.2.2.1 lv st S1 → (∀ j : Nat, (j : Int) < nv α 1 → S1.1 806 j = S1.1 808 j) → 100000 + (4500 - nv α 1).toNat * 3 + 2 < k + 1 → hd_W wd_fl2 kh_restores kh_restores_y l D tc ad kd N sm xs S p e s m args below meth c sz 2 lv st S1 0) := by
  have hx : xs.length = 1 := by rw [H0.2.1.1]; rfl
  have q503 : wasF S := by
    have h := H0.2.2.2.2.2.2.2.2.1 503 (by decide +kernel)
    rw [wd_fl2, if_neg (by decide)] at h
    exact h
  intro α lv st S1 H hp hk
  obtain ⟨α1, hle, Hr⟩ := as_recM (pl := []) [] (by decide +kernel) H
  have hf := H.2.2.2.2.2.2.2.2.2.2.1
  have hl1 : α1.length = 2 := by rw [Hr.2.1.1]; rfl
  have hl0 : α.length = 2 := by rw [H.2.1.1]; rfl
  have hxa : al_le xs α1 := H.1.trans hle
  obtain ⟨g1, -, g3, g4, -⟩ := as_fx Hr
  have g0 : (805 ≤ nv α1 0 ∧ nv α1 0 ≤ 805) ∧ (0 ≤ nv α1 1 ∧ nv α1 1 ≤ 9999) ∧ True := by
    refine ⟨by have h := (en_nv (i := 0) Hr.2.1 rfl).2; exact h, by have h := (en_nv (i := 1) Hr.2.1 rfl).2; exact h, trivial⟩
  have r0 : nv α1 0 = nv α 0 := nv_le hle (by omega)
  have r1 : nv α1 1 = nv α 1 := nv_le hle (by omega)
  refine hd_segM G (na := 2) (fuel := 600) (first := true) (Bs := [kh_restores_b2_0, kh_restores_b2_1]) (by decide +kernel) hl1 Hr ?_
  intro q hq β lv' st' S' H1
  simp only [List.mem_cons, List.not_mem_nil, or_false] at hq
  rcases hq with rfl | rfl
  · obtain ⟨f1, f2, f3, f4, f5⟩ := as_fx H1
    simp only [kh_restores_b2_0, fx_env, fx_c, fx_ne, fx_hf, wl_S, Nat.zero_add, Nat.reduceAdd, Nat.reduceDiv, Nat.reduceMod, List.getElem?_cons_zero, List.getElem?_cons_succ, if_true, and_true, true_and] at f1 f2 f3 f4 f5
    have fe0 : nv β 0 = 805 := by omega
    have fe2 : nv β 2 = 4500 := by omega
    have fe3 : nv β 3 = 0 := by omega
    try simp only [fe0, fe2, fe3, Int.reduceToNat] at f2 f3 f4 f5
    have s0 : nv β 0 = nv α1 0 := nv_le H1.1 (by omega)
    have s1 : nv β 1 = nv α1 1 := nv_le H1.1 (by omega)
    have c0 := f2
    obtain ⟨α', Ha, hm⟩ := hd_gpM (q := kh_restores_a29) (n := 0) (by decide +kernel) hx H1 (by decide +kernel) hxa hf
    have hfr := H1.2.2.2.2.2.2.2.2.2.2.1
    have m0 : nv α' 0 = nv β 0 := hm 0 0 rfl
    have m1 : nv α' 1 = nv β 3 := hm 1 3 rfl
    subst S'
    refine ih.2.2.2.1 _ _ _ _ Ha ?_ ?_
    · intro j hj; exact hp j (by omega)
    · omega
  · obtain ⟨f1, f2, f3, f4, f5⟩ := as_fx H1
    simp only [kh_restores_b2_1, fx_env, fx_c, fx_ne, fx_hf, wl_S, Nat.zero_add, Nat.reduceAdd, Nat.reduceDiv, Nat.reduceMod, List.getElem?_cons_zero, List.getElem?_cons_succ, if_true, and_true, true_and] at f1 f2 f3 f4 f5
    have fe0 : nv β 0 = 805 := by omega
    have fe2 : nv β 2 = 4500 := by omega
    have fe3 : nv β 3 = 806 := by omega
    have fe4 : nv β 4 = 808 := by omega
    try simp only [fe0, fe2, fe3, fe4, Int.reduceToNat] at f2 f3 f4 f5
    have s0 : nv β 0 = nv α1 0 := nv_le H1.1 (by omega)
    have s1 : nv β 1 = nv α1 1 := nv_le H1.1 (by omega)
    obtain ⟨c0, c1⟩ := f2
    obtain ⟨α', Ha, hm⟩ := hd_gpM (q := kh_restores_a20) (n := 0) (by decide +kernel) hx H1 (by decide +kernel) hxa hf
    have hfr := H1.2.2.2.2.2.2.2.2.2.2.1
    have m0 : nv α' 0 = nv β 0 := hm 0 0 rfl
    have m1 : nv α' 1 = nv β 1 := hm 1 1 rfl
    have m2 : nv α' 2 = nv β 5 := hm 2 5 rfl
    have m3 : nv α' 3 = nv β 1 := hm 3 1 rfl
    have m4 : nv α' 4 = nv β 3 := hm 4 3 rfl
    subst S'
    have o0 := old_0 c0 rfl
    refine ih.2.1 _ _ _ _ Ha ?_ ?_
    · rw [m1, m2, m3]
      exact ⟨fun j hj => hp j (by omega), o0.symm, rfl⟩
    · omega
set_option maxHeartbeats 16000000 in
set_option maxRecDepth 8000 in
theorem kh_restores_h20 {l : Launch} {D : va_G} {tc : Nat → ClassId} {ad : Nat → Nat} {kd : Nat → Nat × Nat} {N : Nat} {sm : Nat → Nat} {xs : List av_X} {S : fw_S} {p : Program} {e : Env} {s : State} {m : MethodId} {args : Array Value} {below : List Frame} {meth : Method} {c : Code} {sz : Nat} {lvE : List (Nat × Value)} (G : hd_C wd_ff2 wd_fl2 kh_restores [] kh_restores_y l D tc ad kd N sm xs p s m args meth c sz) (H0 : as_in ad sm wd_fl2 xs S kh_restores.2.2.2.2.2.1 xs (hd_0 kh_restores) lvE [] S) {k : Nat} (ih : kh_restores_I l D tc ad kd N sm xs S p e s m args below meth c sz k) : (∀ (α : List av_X) (lv : List (Nat × Value)) (st : List Value) (S1 : fw_S), as_in ad sm wd_fl2 xs S kh_restores.2.2.2.2.2.1 α kh_restores_a20.2.2.1 lv st S1 → ((∀ j : Nat, (j : Int) < nv α 1 → S1.1 806 j = S1.1 808 j) ∧ nv α 2 = (S1.1 808 (nv α 3).toNat).toInt ∧ nv α 3 = nv α 1) → 100000 + (4500 - nv α 1).toNat * 3 + 1 < k + 1 → hd_W wd_fl2 kh_restores kh_restores_y l D tc ad kd N sm xs S p e s m args below meth c sz 20 lv st S1 0) := by
  have hx : xs.length = 1 := by rw [H0.2.1.1]; rfl
  have q503 : wasF S := by
    have h := H0.2.2.2.2.2.2.2.2.1 503 (by decide +kernel)
    rw [wd_fl2, if_neg (by decide)] at h
    exact h
  intro α lv st S1 H hp hk
  have hf := H.2.2.2.2.2.2.2.2.2.2.1
  have g0 : (805 ≤ nv α 0 ∧ nv α 0 ≤ 805) ∧ (0 ≤ nv α 1 ∧ nv α 1 ≤ 4499) ∧ ((-2147483648) ≤ nv α 2 ∧ nv α 2 ≤ 2147483647) ∧ (0 ≤ nv α 3 ∧ nv α 3 ≤ 4499) ∧ (806 ≤ nv α 4 ∧ nv α 4 ≤ 806) ∧ True := by
    refine ⟨by have h := (en_nv (i := 0) H.2.1 rfl).2; exact h, by have h := (en_nv (i := 1) H.2.1 rfl).2; exact h, by have h := (en_nv (i := 2) H.2.1 rfl).2; exact h, by have h := (en_nv (i := 3) H.2.1 rfl).2; exact h, by have h := (en_nv (i := 4) H.2.1 rfl).2; exact h, trivial⟩
  have e8 : S1.1 808 = S.1 808 := fr_row hf 808 (by decide +kernel)
  obtain ⟨p1, p2, p3⟩ := hp
  have hv : Int32.ofInt (nv α 2) = S.1 808 (nv α 3).toNat := by rw [p2, Int32.ofInt_toInt, e8]
  refine hd_store G (by decide +kernel) (xv := 2) (iv := 3) (rv := 4) (cc := 806) rfl (by rfl) (by rfl) (by rfl) H (gi_put H.2.2.2.2.2.2.2.2.2.1 (fun q hq hc hj => by rw [hv]; exact q503.1.1 q hq hc _ hj) wd_gt_c) (fr_put hf (by
      by_cases e : (nv α 3).toNat ≤ 7
      · exact Or.inr (by rw [hv]; exact q503.2.1 _ e)
      by_cases e2 : 500 ≤ (nv α 3).toNat ∧ (nv α 3).toNat ≤ 515
      · exact Or.inr (by rw [hv]; exact q503.2.2 _ e2.1 e2.2)
      refine Or.inl ?_
      by_cases e3 : (nv α 3).toNat < 500
      · exact (md_at_p (lo := 8) (hi := 499) (st := 1) (by decide) (by omega) (by omega) (Nat.one_dvd _))
      · exact (md_at_p (lo := 516) (hi := 4499) (st := 1) (by decide) (by omega) (by omega) (Nat.one_dvd _)))) (fun st' H1 => ?_)
  obtain ⟨α', Ha, hm⟩ := hd_gpS (q := kh_restores_a21) (n := 0) (by decide +kernel) hx H1
  have m0 : nv α' 0 = nv α 0 := hm 0 0 rfl
  have m1 : nv α' 1 = nv α 1 := hm 1 1 rfl
  refine ih.2.2.1 _ _ _ _ Ha ?_ ?_
  · intro j hj
    rw [m1] at hj
    have e88 : (fw_i S1 806 (nv α 3).toNat (Int32.ofInt (nv α 2))).1 808 = S1.1 808 := fw_i_ne (by decide)
    rw [fw_i_row, e88, e8]
    by_cases e : j = (nv α 3).toNat
    · rw [if_pos e, hv, e]
    · rw [if_neg e, ← e8]; exact p1 j (by omega)
  · rw [m1]; omega
set_option maxHeartbeats 16000000 in
set_option maxRecDepth 8000 in
theorem kh_restores_h21 {l : Launch} {D : va_G} {tc : Nat → ClassId} {ad : Nat → Nat} {kd : Nat → Nat × Nat} {N : Nat} {sm : Nat → Nat} {xs : List av_X} {S : fw_S} {p : Program} {e : Env} {s : State} {m : MethodId} {args : Array Value} {below : List Frame} {meth : Method} {c : Code} {sz : Nat} {lvE : List (Nat × Value)} (G : hd_C wd_ff2 wd_fl2 kh_restores [] kh_restores_y l D tc ad kd N sm xs p s m args meth c sz) (H0 : as_in ad sm wd_fl2 xs S kh_restores.2.2.2.2.2.1 xs (hd_0 kh_restores) lvE [] S) {k : Nat} (ih : kh_restores_I l D tc ad kd N sm xs S p e s m args below meth c sz k) : (∀ (α : List av_X) (lv : List (Nat × Value)) (st : List Value) (S1 : fw_S), as_in ad sm wd_fl2 xs S kh_restores.2.2.2.2.2.1 α kh_restores_a21.2.2.1 lv st S1 → (∀ j : Nat, (j : Int) < nv α 1 + 1 → S1.1 806 j = S1.1 808 j) → 100000 + (4500 - nv α 1).toNat * 3 < k + 1 → hd_W wd_fl2 kh_restores kh_restores_y l D tc ad kd N sm xs S p e s m args below meth c sz 21 lv st S1 0) := by
  have hx : xs.length = 1 := by rw [H0.2.1.1]; rfl
  have q503 : wasF S := by
    have h := H0.2.2.2.2.2.2.2.2.1 503 (by decide +kernel)
    rw [wd_fl2, if_neg (by decide)] at h
    exact h
  intro α lv st S1 H hp hk
  obtain ⟨α1, hle, Hr⟩ := as_recM (pl := []) [] (by decide +kernel) H
  have hf := H.2.2.2.2.2.2.2.2.2.2.1
  have hl1 : α1.length = 2 := by rw [Hr.2.1.1]; rfl
  have hl0 : α.length = 2 := by rw [H.2.1.1]; rfl
  have hxa : al_le xs α1 := H.1.trans hle
  obtain ⟨g1, -, g3, g4, -⟩ := as_fx Hr
  have g0 : (805 ≤ nv α1 0 ∧ nv α1 0 ≤ 805) ∧ (0 ≤ nv α1 1 ∧ nv α1 1 ≤ 4499) ∧ True := by
    refine ⟨by have h := (en_nv (i := 0) Hr.2.1 rfl).2; exact h, by have h := (en_nv (i := 1) Hr.2.1 rfl).2; exact h, trivial⟩
  have r0 : nv α1 0 = nv α 0 := nv_le hle (by omega)
  have r1 : nv α1 1 = nv α 1 := nv_le hle (by omega)
  refine hd_segM G (na := 2) (fuel := 600) (first := true) (Bs := [kh_restores_b21_0]) (by decide +kernel) hl1 Hr ?_
  intro q hq β lv' st' S' H1
  simp only [List.mem_cons, List.not_mem_nil, or_false] at hq
  rcases hq with rfl
  · obtain ⟨f1, f2, f3, f4, f5⟩ := as_fx H1
    simp only [kh_restores_b21_0, fx_env, fx_c, fx_ne, fx_hf, wl_S, Nat.zero_add, Nat.reduceAdd, Nat.reduceDiv, Nat.reduceMod, List.getElem?_cons_zero, List.getElem?_cons_succ, if_true, and_true, true_and] at f1 f2 f3 f4 f5
    have fe0 : nv β 0 = 805 := by omega
    try simp only [fe0, Int.reduceToNat] at f2 f3 f4 f5
    have s0 : nv β 0 = nv α1 0 := nv_le H1.1 (by omega)
    have s1 : nv β 1 = nv α1 1 := nv_le H1.1 (by omega)
    obtain ⟨α', Ha, hm⟩ := hd_gpM (q := kh_restores_a2) (n := 0) (by decide +kernel) hx H1 (by decide +kernel) hxa hf
    have hfr := H1.2.2.2.2.2.2.2.2.2.2.1
    have m0 : nv α' 0 = nv β 0 := hm 0 0 rfl
    have m1 : nv α' 1 = nv β 2 := hm 1 2 rfl
    subst S'
    refine ih.1 _ _ _ _ Ha ?_ ?_
    · intro j hj; rw [m1] at hj; exact hp j (by omega)
    · omega
set_option maxHeartbeats 16000000 in
set_option maxRecDepth 8000 in
theorem kh_restores_h29 {l : Launch} {D : va_G} {tc : Nat → ClassId} {ad : Nat → Nat} {kd : Nat → Nat × Nat} {N : Nat} {sm : Nat → Nat} {xs : List av_X} {S : fw_S} {p : Program} {e : Env} {s : State} {m : MethodId} {args : Array Value} {below : List Frame} {meth : Method} {c : Code} {sz : Nat} {lvE : List (Nat × Value)} (G : hd_C wd_ff2 wd_fl2 kh_restores [] kh_restores_y l D tc ad kd N sm xs p s m args meth c sz) (H0 : as_in ad sm wd_fl2 xs S kh_restores.2.2.2.2.2.1 xs (hd_0 kh_restores) lvE [] S) {k : Nat} (ih : kh_restores_I l D tc ad kd N sm xs S p e s m args below meth c sz k) : (∀ (α : List av_X) (lv : List (Nat × Value)) (st : List Value) (S1 : fw_S), as_in ad sm wd_fl2 xs S kh_restores.2.2.2.2.2.1 α kh_restores_a29.2.2.1 lv st S1 → (∀ j : Nat, (j : Int) < 4500 → S1.1 806 j = S1.1 808 j) → (3600 - nv α 1).toNat < k + 1 → hd_W wd_fl2 kh_restores kh_restores_y l D tc ad kd N sm xs S p e s m args below meth c sz 29 lv st S1 0) := by
  have hx : xs.length = 1 := by rw [H0.2.1.1]; rfl
  have q503 : wasF S := by
    have h := H0.2.2.2.2.2.2.2.2.1 503 (by decide +kernel)
    rw [wd_fl2, if_neg (by decide)] at h
    exact h
  intro α lv st S1 H hp hk
  obtain ⟨α1, hle, Hr⟩ := as_recM (pl := []) [((807, 807), (0, 3599, 1))] (by decide +kernel) H
  have hf := H.2.2.2.2.2.2.2.2.2.2.1
  have hl1 : α1.length = 2 := by rw [Hr.2.1.1]; rfl
  have hl0 : α.length = 2 := by rw [H.2.1.1]; rfl
  have hxa : al_le xs α1 := H.1.trans hle
  obtain ⟨g1, -, g3, g4, -⟩ := as_fx Hr
  have g0 : (805 ≤ nv α1 0 ∧ nv α1 0 ≤ 805) ∧ (0 ≤ nv α1 1 ∧ nv α1 1 ≤ 9999) ∧ True := by
    refine ⟨by have h := (en_nv (i := 0) Hr.2.1 rfl).2; exact h, by have h := (en_nv (i := 1) Hr.2.1 rfl).2; exact h, trivial⟩
  have r0 : nv α1 0 = nv α 0 := nv_le hle (by omega)
  have r1 : nv α1 1 = nv α 1 := nv_le hle (by omega)
  refine hd_segM G (na := 2) (fuel := 600) (first := true) (Bs := [kh_restores_b29_0, kh_restores_b29_1]) (by decide +kernel) hl1 Hr ?_
  intro q hq β lv' st' S' H1
  simp only [List.mem_cons, List.not_mem_nil, or_false] at hq
  rcases hq with rfl | rfl
  · obtain ⟨f1, f2, f3, f4, f5⟩ := as_fx H1
    simp only [kh_restores_b29_0, fx_env, fx_c, fx_ne, fx_hf, wl_S, Nat.zero_add, Nat.reduceAdd, Nat.reduceDiv, Nat.reduceMod, List.getElem?_cons_zero, List.getElem?_cons_succ, if_true, and_true, true_and] at f1 f2 f3 f4 f5
    have fe0 : nv β 0 = 805 := by omega
    have fe2 : nv β 2 = 3600 := by omega
    try simp only [fe0, fe2, Int.reduceToNat] at f2 f3 f4 f5
    have s0 : nv β 0 = nv α1 0 := nv_le H1.1 (by omega)
    have s1 : nv β 1 = nv α1 1 := nv_le H1.1 (by omega)
    have c0 := f2
    have e8 : S1.1 808 = S.1 808 := fr_row hf 808 (by decide +kernel)
    have hg : gdF (S'.1 806) := by
      rw [f5]
      exact gdF_eq (fun j hj => by rw [hp j (by omega), e8]) q503.1
    exact hd_run G (ss := []) (fuel := 20) (by decide +kernel) (as_fl_in (f := [510, 513, 515]) (as_backM H1 (by decide +kernel) hxa hf) (fun g hq => by
      rcases List.mem_cons.mp hq with rfl | hq
      · rw [wd_fl2, if_neg (by decide)]; exact hg.2.1
      rcases List.mem_cons.mp hq with rfl | hq
      · rw [wd_fl2, if_neg (by decide)]; exact hg.2.2.1
      rcases List.mem_singleton.mp hq with rfl
      rw [wd_fl2, if_neg (by decide)]; exact hg.2.2.2))
  · obtain ⟨f1, f2, f3, f4, f5⟩ := as_fx H1
    simp only [kh_restores_b29_1, fx_env, fx_c, fx_ne, fx_hf, wl_S, Nat.zero_add, Nat.reduceAdd, Nat.reduceDiv, Nat.reduceMod, List.getElem?_cons_zero, List.getElem?_cons_succ, if_true, and_true, true_and] at f1 f2 f3 f4 f5
    have fe0 : nv β 0 = 805 := by omega
    have fe2 : nv β 2 = 3600 := by omega
    have fe3 : nv β 3 = 807 := by omega
    have fe4 : nv β 4 = 809 := by omega
    try simp only [fe0, fe2, fe3, fe4, Int.reduceToNat] at f2 f3 f4 f5
    have s0 : nv β 0 = nv α1 0 := nv_le H1.1 (by omega)
    have s1 : nv β 1 = nv α1 1 := nv_le H1.1 (by omega)
    obtain ⟨c0, c1⟩ := f2
    obtain ⟨α', Ha, hm⟩ := hd_gpM (q := kh_restores_a29) (n := 0) (by decide +kernel) hx H1 (by decide +kernel) hxa hf
    have hfr := H1.2.2.2.2.2.2.2.2.2.2.1
    have m0 : nv α' 0 = nv β 0 := hm 0 0 rfl
    have m1 : nv α' 1 = nv β 6 := hm 1 6 rfl
    have e8 := fr_row hfr 808 (by decide +kernel)
    have e6 := fr_row hfr 806 (by decide +kernel)
    refine ih.2.2.2.1 _ _ _ _ Ha ?_ ?_
    · intro j hj; rw [e8, e6]; exact hp j hj
    · omega
set_option maxHeartbeats 16000000 in
set_option maxRecDepth 8000 in
theorem kh_restores_ok : ct_ok wd_fl2 kh_restores := ct_hand (ff := wd_ff2) (y := kh_restores_y) (Cs := []) wd_fl2_ok rfl (List.forall_mem_nil _) (by decide +kernel) (fun l D tc ad kd N sm xs S p e s m args below meth c sz lv G H0 => by
  have hx : xs.length = 1 := by rw [H0.2.1.1]; rfl
  have q503 : wasF S := by
    have h := H0.2.2.2.2.2.2.2.2.1 503 (by decide +kernel)
    rw [wd_fl2, if_neg (by decide)] at h
    exact h
  have hP : ∀ (k : Nat), kh_restores_I l D tc ad kd N sm xs S p e s m args below meth c sz k := by
    intro k
    induction k with
    | zero => exact ⟨fun _ _ _ _ _ _ h => absurd h (Nat.not_lt_zero _), fun _ _ _ _ _ _ h => absurd h (Nat.not_lt_zero _), fun _ _ _ _ _ _ h => absurd h (Nat.not_lt_zero _), fun _ _ _ _ _ _ h => absurd h (Nat.not_lt_zero _), trivial⟩
    | succ k ih => exact ⟨kh_restores_h2 G H0 ih, kh_restores_h20 G H0 ih, kh_restores_h21 G H0 ih, kh_restores_h29 G H0 ih, trivial⟩
  obtain ⟨α1, hle, Hr⟩ := as_recM (pl := []) [] (by decide +kernel) H0
  have hf := H0.2.2.2.2.2.2.2.2.2.2.1
  have hl1 : α1.length = 1 := by rw [Hr.2.1.1]; rfl
  have hl0 : xs.length = 1 := by rw [H0.2.1.1]; rfl
  have hxa : al_le xs α1 := H0.1.trans hle
  obtain ⟨g1, -, g3, g4, -⟩ := as_fx Hr
  have g0 : (805 ≤ nv α1 0 ∧ nv α1 0 ≤ 805) ∧ True := by
    refine ⟨by have h := (en_nv (i := 0) Hr.2.1 rfl).2; exact h, trivial⟩
  have r0 : nv α1 0 = nv xs 0 := nv_le hle (by omega)
  refine hd_segM G (na := 1) (fuel := 600) (first := true) (Bs := [kh_restores_b0_0]) (by decide +kernel) hl1 Hr ?_
  intro q hq β lv' st' S' H1
  simp only [List.mem_cons, List.not_mem_nil, or_false] at hq
  rcases hq with rfl
  · obtain ⟨f1, f2, f3, f4, f5⟩ := as_fx H1
    simp only [kh_restores_b0_0, fx_env, fx_c, fx_ne, fx_hf, wl_S, Nat.zero_add, Nat.reduceAdd, Nat.reduceDiv, Nat.reduceMod, List.getElem?_cons_zero, List.getElem?_cons_succ, if_true, and_true, true_and] at f1 f2 f3 f4 f5
    have fe0 : nv β 0 = 805 := by omega
    have fe1 : nv β 1 = 0 := by omega
    try simp only [fe0, fe1, Int.reduceToNat] at f2 f3 f4 f5
    have s0 : nv β 0 = nv α1 0 := nv_le H1.1 (by omega)
    obtain ⟨α', Ha, hm⟩ := hd_gpM (q := kh_restores_a2) (n := 0) (by decide +kernel) hx H1 (by decide +kernel) hxa hf
    have hfr := H1.2.2.2.2.2.2.2.2.2.2.1
    have m0 : nv α' 0 = nv β 0 := hm 0 0 rfl
    have m1 : nv α' 1 = nv β 1 := hm 1 1 rfl
    subst S'
    refine (hP _).1 _ _ _ _ Ha ?_ (Nat.lt_succ_self _)
    · intro j hj; rw [m1] at hj; omega)
