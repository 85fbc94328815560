/-! ===== more by hand ===== -/
section HE
variable {ad sm : Nat → Nat} {fl : fl_T} {α0 : List av_X} {S0 : fw_S} {mod : List md_T} {α : List av_X} {A : as_T} {lv : List (Nat × Value)} {st : List Value} {S1 : fw_S} {n : Nat}
theorem hd_gp {na : Nat} {q : an_T} {xs : List av_X} {Se : fw_S} (h : q_arr na none n (as_bk A) q = true) (hna : xs.length = na) (H : as_in ad sm fl α0 S0 mod α A lv st S1) (hle : al_le xs α0) (hf : fr_in mod Se S0) :
    ∃ α', as_in ad sm fl xs Se mod α' q.2.2.1 lv st S1 ∧ ∀ i v, (q_mu na q.2.2.1 (as_bk A))[i]? = some v → nv α' i = nv α v := ⟨_, hd_go h hna H hle hf, fun _ _ hv => nv_mu hv⟩
theorem st_nil {α : List av_X} {A : as_T} (H : as_in ad sm fl α0 S0 mod α A lv st S1) (h : A.2.2.1 = []) : st = [] := by
  have := H.2.2.2.1
  rw [h] at this
  match st, this with
  | [], _ => rfl
  | _ :: _, z => exact z.elim
theorem as_recM {pl : List (Nat × Nat × Nat)} (mod' : List md_T) (h : pl_oks A pl = true) (H : as_in ad sm fl α0 S0 mod α A lv st S1) : ∃ α', al_le α α' ∧ as_in ad sm fl α' S1 mod' α' (as_rec A pl) lv st S1 := by
  obtain ⟨α', h1, g1, g2, g3, g4, g5, g6, g7, g8, g9, g10, g11, g12⟩ := as_rec_in h H
  exact ⟨α', h1, g1, g2, g3, g4, g5, g6, g7, g8, g9, g10, ⟨fun _ _ _ => ⟨rfl, rfl⟩, rfl⟩, g12⟩
theorem as_backM {xs : List av_X} {Se : fw_S} {mod0 : List md_T} (H : as_in ad sm fl α0 S0 mod α A lv st S1) (hm : mod.all (fun d => md_ok mod0 d.1.1 d.1.2 d.2) = true) (hle : al_le xs α0) (hf : fr_in mod0 Se S0) : as_in ad sm fl xs Se mod0 α (as_bk A) lv st S1 := by
  obtain ⟨g1, g2, g3, g4, g5, g6, g7, g8, g9, g10, g11, g12⟩ := H
  exact ⟨hle.trans g1, g2, g3, g4, g5, g6, fun q hq => by (exfalso; exact List.not_mem_nil hq), g8, g9, g10, fr_comp hf g11 hm, trivial⟩
theorem hd_gpM {na : Nat} {q : an_T} {xs : List av_X} {Se : fw_S} {mod0 : List md_T} (h : q_arr na none n (as_bk A) q = true) (hna : xs.length = na) (H : as_in ad sm fl α0 S0 mod α A lv st S1) (hm : mod.all (fun d => md_ok mod0 d.1.1 d.1.2 d.2) = true) (hle : al_le xs α0) (hf : fr_in mod0 Se S0) :
    ∃ α', as_in ad sm fl xs Se mod0 α' q.2.2.1 lv st S1 ∧ ∀ i v, (q_mu na q.2.2.1 (as_bk A))[i]? = some v → nv α' i = nv α v := ⟨_, hd_arr h hna (as_backM H hm hle hf), fun _ _ hv => nv_mu hv⟩
theorem as_clamp {i : Nat} {q : en_E} {lo hi : Int} (H : as_in ad sm fl α0 S0 mod α A lv st S1) (hq : A.1[i]? = some q) (h0 : q.1.1 = 0) (h1 : lo ≤ nv α i) (h2 : nv α i ≤ hi) (h3 : -2147483648 ≤ lo ∧ hi ≤ 2147483647) : as_in ad sm fl α0 S0 mod α (A.1.set i ((0, lo, hi, 1), q.2), A.2) lv st S1 := by
  have h := (en_nv H.2.1 hq).1
  rw [h0] at h
  exact as_set H h hq ⟨rfl, ⟨by dsimp only; omega, by dsimp only; omega⟩, h1, h2, av_one _⟩
/-- a row that isn't written -/
theorem fr_row {mod : List md_T} {S S' : fw_S} (h : fr_in mod S S') (c : Nat) (hc : mod.all (fun d => decide (d.1.2 < c) || decide (c < d.1.1)) = true) : S'.1 c = S.1 c := funext fun j => (h.1 c j (fun g => by
  obtain ⟨d, d1, d2, d3, -⟩ := g
  have := List.all_eq_true.mp hc d d1
  rw [Bool.or_eq_true, decide_eq_true_eq, decide_eq_true_eq] at this
  omega)).1
/-- a place that isn't written -/
theorem fr_pl {mod : List md_T} {S S' : fw_S} (h : fr_in mod S S') (c j : Nat) (hc : mod.all (fun d => md_off d c c (j, j, 0)) = true) : S'.1 c j = S.1 c j := (h.1 c j (fun g => by
  obtain ⟨d, d1, d2, d3, d4⟩ := g
  exact md_off_in (List.all_eq_true.mp hc d d1) (Nat.le_refl _) (Nat.le_refl _) pg_one d2 d3 d4)).1
end HE
section HF
variable {ff : Nat → List md_T} {fl : fl_T} {C : ct_T} {Cs : List ct_T} {y : mt_T} {l : Launch} {D : va_G} {tc : Nat → ClassId} {ad : Nat → Nat} {kd : Nat → Nat × Nat} {N : Nat} {sm : Nat → Nat} {xs : List av_X} {S : fw_S}
variable {p : Program} {e : Env} {s : State} {m : MethodId} {args : Array Value} {below : List Frame} {meth : Method} {c : Code} {sz : Nat}
variable {pc n : Nat} {lv : List (Nat × Value)} {st : List Value} {S1 S0 : fw_S} {α α0 : List av_X} {A : as_T}
/-- a segment, with what it alone may write -/
theorem hd_segM (G : hd_C ff fl C Cs y l D tc ad kd N sm xs p s m args meth c sz) {mod : List md_T} {na fuel : Nat} {first : Bool} {Bs : List sg_T} (h : en_sg y.2.2.2.2.1 y.2.2.1 C.2.2.2.2.2.2.1 C.2.2.2.2.2.2.2.1 C.2.2.2.2.2.2.2.2 na y.2.2.2.1 ff mod Cs y.2.1 Bs fuel first n pc A = true) (hna : α0.length = na)
    (H : as_in ad sm fl α0 S0 mod α A lv st S1) (hB : ∀ q ∈ Bs, ∀ (β : List av_X) (lv : List (Nat × Value)) (st : List Value) (S' : fw_S), as_in ad sm fl α0 S0 mod β q.2.2 lv st S' → hd_W fl C y l D tc ad kd N sm xs S p e s m args below meth c sz q.1 lv st S' q.2.1) :
    hd_W fl C y l D tc ad kd N sm xs S p e s m args below meth c sz pc lv st S1 n :=
  en_sg_in (α0 := α0) G.1 G.2.1 G.2.2.1 G.2.2.2.1 G.2.2.2.2.2.2.2.2 G.2.2.2.2.1 hna G.2.2.2.2.2.2.2.1 hB fuel first n pc A h α lv st S1 H
end HF
