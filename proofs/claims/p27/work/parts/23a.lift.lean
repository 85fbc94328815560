/-! ===== YET MORE FLAGS AND RELATIONS ===== -/
def hgt (S : fw_S) (x : Int) : Int := (S.1 806 (20 + x).toNat).toInt
/-- what a pipe has room for -/
def wRm (S : fw_S) (t : Int) : Int := lkv S 1 t 1 - (S.1 839 (2 * t).toNat).toInt - (S.1 839 (2 * t + 1).toNat).toInt
abbrev wOpP (S : fw_S) (t h : Int) : Prop := leadsP S 1 t ∧ 1 ≤ wRm S t ∧ hgt S (lowI t) ≤ h ∧ hgt S (highI t) ≤ h
/-- a way of so many pipes that are open -/
def wP (S : fw_S) (h : Int) : Nat → Int → Int → Prop
  | 0, x, y => x = y ∧ hgt S x ≤ h
  | n + 1, x, y => ∃ (t : Nat) (z : Int), t ≤ 16 ∧ 0 ≤ z ∧ z ≤ 11 ∧ wOpP S t h ∧ jn t x z ∧ wP S h n z y
/-- the chosen source has water, the chosen crossing wants some, and there is a way -/
def wOK (S : fw_S) : Prop := 0 ≤ (S.1 805 46).toInt ∧ (S.1 805 46).toInt ≤ 6 ∧ 0 ≤ (S.1 805 47).toInt ∧ (S.1 805 47).toInt ≤ 11 ∧
  1 ≤ (S.1 829 (S.1 805 46).toInt.toNat).toInt ∧ 1 ≤ (S.1 832 (S.1 805 47).toInt.toNat).toInt ∧
  ∃ n : Nat, n ≤ 11 ∧ wP S (S.1 828 (S.1 805 46).toInt.toNat).toInt n (S.1 805 47).toInt (S.1 827 (S.1 805 46).toInt.toNat).toInt
theorem wRm_eq {S S' : fw_S} {t : Int} (ht : 0 ≤ t ∧ t ≤ 16) (h6 : ∀ j, j ≤ 999 → S'.1 806 j = S.1 806 j) (h9 : ∀ j, j ≤ 33 → S'.1 839 j = S.1 839 j) : wRm S' t = wRm S t := by
  unfold wRm
  rw [lkv_eq (by omega) ht (by omega) h6, h9 _ (by omega), h9 _ (by omega)]
theorem hgt_eq {S S' : fw_S} {x : Int} (hx : 0 ≤ x ∧ x ≤ 11) (h6 : ∀ j, j ≤ 999 → S'.1 806 j = S.1 806 j) : hgt S' x = hgt S x := by
  unfold hgt
  rw [h6 _ (by omega)]
theorem wOp_eq {S S' : fw_S} {t : Nat} {h : Int} (ht : t ≤ 16) (h6 : ∀ j, j ≤ 999 → S'.1 806 j = S.1 806 j) (h9 : ∀ j, j ≤ 33 → S'.1 839 j = S.1 839 j) (w : wOpP S t h) : wOpP S' t h := by
  obtain ⟨w1, w2, w3, w4⟩ := w
  have b := lh_bd t ht
  unfold wOpP leadsP
  rw [lkv_eq (by omega) (by omega) (by omega) h6, lkv_eq (by omega) (by omega) (by omega) h6, lkv_eq (by omega) (by omega) (by omega) h6, wRm_eq (by omega) h6 h9, hgt_eq (by omega) h6, hgt_eq (by omega) h6]
  exact ⟨w1, w2, w3, w4⟩
theorem wP_eq {S S' : fw_S} {h : Int} (h6 : ∀ j, j ≤ 999 → S'.1 806 j = S.1 806 j) (h9 : ∀ j, j ≤ 33 → S'.1 839 j = S.1 839 j) : ∀ {n : Nat} {x y : Int}, 0 ≤ x ∧ x ≤ 11 → wP S h n x y → wP S' h n x y
  | 0, x, y, hx, w => ⟨w.1, by rw [hgt_eq hx h6]; exact w.2⟩
  | n + 1, x, y, hx, ⟨t, z, t1, z1, z2, o, j, w⟩ => ⟨t, z, t1, z1, z2, wOp_eq t1 h6 h9 o, j, wP_eq h6 h9 ⟨z1, z2⟩ w⟩
/-! what holds of the row s (or of what is kept of it) -/
def mjk (f : Nat → Int32) (j w : Nat) : Int := (f (2450 + 8 * j + w)).toInt
def mck (f : Nat → Int32) (k w : Nat) : Int := (f (2401 + 8 * k + w)).toInt
/-- a job for a customer has one -/
def jbF (f : Nat → Int32) : Prop := ∀ j : Nat, j < 200 → 4 ≤ mjk f j 0 → mjk f j 2 ≤ 9
/-- a crew's job is its own, and no other's -/
def crF (f : Nat → Int32) : Prop := (∀ k : Nat, k < 4 → (k : Int) < (f 2400).toInt → mck f k 3 = -1 ∨ (0 ≤ mck f k 3 ∧ mck f k 3 < (f 2440).toInt ∧ mjk f (mck f k 3).toNat 4 = 1 ∧ mjk f (mck f k 3).toNat 5 = k)) ∧
  (∀ j : Nat, j < 200 → mjk f j 4 = 1 → 0 ≤ mjk f j 5 ∧ mjk f j 5 < (f 2400).toInt ∧ mjk f j 5 ≤ 3 ∧ (j : Int) < (f 2440).toInt ∧ mck f (mjk f j 5).toNat 3 = j)
def opS (f : Nat → Int32) : Nat → Int
  | 0 => 0
  | n + 1 => opS f n + (if mjk f n 4 < 2 then 1 else 0)
/-- so many jobs aren't over -/
def opF (f : Nat → Int32) (m : Int) : Prop := opS f (f 2440).toInt.toNat ≤ m
def stFirst (p : Nat) : Int := if p < 2 then 4 else if p = 2 then 2 else 200
/-- what came, went and was taken -/
def stF (f : Nat → Int32) : Prop := ∀ p : Nat, p < 4 → ((f (4060 + p)).toInt - (stFirst p + (f (4072 + p)).toInt - (f (4076 + p)).toInt - (f (4068 + p)).toInt)) % 4294967296 = 0
def blF (f : Nat → Int32) (m : Int) : Prop := ∀ c : Nat, c < 10 → 30 * (f (1820 + 20 * c)).toInt ≤ (f 0).toInt + m
theorem jbF_eq {f g : Nat → Int32} (h : ∀ j w, j < 200 → w < 8 → g (2450 + 8 * j + w) = f (2450 + 8 * j + w)) (hf : jbF f) : jbF g := by
  intro j hj hk
  unfold mjk at hk ⊢
  rw [h j 0 hj (by omega)] at hk
  rw [h j 2 hj (by omega)]
  exact hf j hj hk
theorem opS_eq {f g : Nat → Int32} : ∀ {n : Nat}, (∀ j, j < n → g (2450 + 8 * j + 4) = f (2450 + 8 * j + 4)) → opS g n = opS f n
  | 0, _ => rfl
  | n + 1, h => by
    rw [opS, opS, opS_eq (fun j hj => h j (by omega))]
    unfold mjk
    rw [h n (by omega)]
theorem crF_eq {f g : Nat → Int32} (h0 : g 2400 = f 2400) (h1 : g 2440 = f 2440) (h2 : ∀ k, k < 4 → g (2401 + 8 * k + 3) = f (2401 + 8 * k + 3)) (h3 : ∀ j w, j < 200 → w < 8 → g (2450 + 8 * j + w) = f (2450 + 8 * j + w)) (hb : (f 2440).toInt ≤ 200) (hf : crF f) : crF g := by
  obtain ⟨f1, f2⟩ := hf
  have c3 : ∀ k, k < 4 → mck g k 3 = mck f k 3 := fun k hk => by unfold mck; rw [h2 k hk]
  have j3 : ∀ j w, j < 200 → w < 8 → mjk g j w = mjk f j w := fun j w hj hw => by unfold mjk; rw [h3 j w hj hw]
  refine ⟨fun k hk hk2 => ?_, fun j hj hs => ?_⟩
  · rw [h0] at hk2
    rw [c3 k hk, h1]
    rcases f1 k hk hk2 with q | ⟨q1, q2, q3, q4⟩
    · exact Or.inl q
    · rw [j3 _ 4 (by omega) (by omega), j3 _ 5 (by omega) (by omega)]
      exact Or.inr ⟨q1, q2, q3, q4⟩
  · rw [j3 j 4 hj (by omega)] at hs
    rw [j3 j 5 hj (by omega), h0, h1]
    obtain ⟨q1, q2, q3, q4, q5⟩ := f2 j hj hs
    rw [c3 _ (by omega)]
    exact ⟨q1, q2, q3, q4, q5⟩
theorem stF_eq {f g : Nat → Int32} (h1 : ∀ p, p < 4 → g (4060 + p) = f (4060 + p)) (h2 : ∀ p, p < 4 → g (4068 + p) = f (4068 + p)) (h3 : ∀ p, p < 4 → g (4072 + p) = f (4072 + p)) (h4 : ∀ p, p < 4 → g (4076 + p) = f (4076 + p)) (hf : stF f) : stF g := by
  intro p hp
  rw [h1 p hp, h2 p hp, h3 p hp, h4 p hp]
  exact hf p hp
theorem blF_eq {f g : Nat → Int32} {m : Int} (h0 : g 0 = f 0) (h1 : ∀ c, c < 10 → g (1820 + 20 * c) = f (1820 + 20 * c)) (hf : blF f m) : blF g m := by
  intro c hc
  rw [h0, h1 c hc]
  exact hf c hc
def jobsN (f : Nat → Int32) : Int := (f 2440).toInt
/-- crews and jobs are in order -/
def crewF (f : Nat → Int32) : Prop := 0 ≤ jobsN f ∧ jobsN f ≤ 200 ∧ jbF f ∧ crF f ∧ opF f 16
theorem crewF_eq {f g : Nat → Int32} (h0 : g 2400 = f 2400) (h1 : g 2440 = f 2440) (h2 : ∀ k, k < 4 → g (2401 + 8 * k + 3) = f (2401 + 8 * k + 3)) (h3 : ∀ j w, j < 200 → w < 8 → g (2450 + 8 * j + w) = f (2450 + 8 * j + w)) (hf : crewF f) : crewF g := by
  obtain ⟨a1, a2, a3, a4, a5⟩ := hf
  unfold jobsN at a1 a2
  refine ⟨by unfold jobsN; rw [h1]; exact a1, by unfold jobsN; rw [h1]; exact a2, jbF_eq h3 a3, crF_eq h0 h1 h2 h3 a2 a4, ?_⟩
  unfold opF at a5 ⊢
  rw [h1, opS_eq (f := f) (fun j hj => h3 j 4 (by omega) (by omega))]
  exact a5
/-- there is room for one more -/
def roomF (f : Nat → Int32) : Prop := 0 ≤ jobsN f ∧ jobsN f ≤ 199 ∧ opF f 15
theorem roomF_eq {f g : Nat → Int32} (h1 : g 2440 = f 2440) (h3 : ∀ j w, j < 200 → w < 8 → g (2450 + 8 * j + w) = f (2450 + 8 * j + w)) (hf : roomF f) : roomF g := by
  obtain ⟨a1, a2, a5⟩ := hf
  unfold jobsN at a1 a2
  refine ⟨by unfold jobsN; rw [h1]; exact a1, by unfold jobsN; rw [h1]; exact a2, ?_⟩
  unfold opF at a5 ⊢
  rw [h1, opS_eq (f := f) (fun j hj => h3 j 4 (by omega) (by omega))]
  exact a5
/-- all that holds of the row s -/
def gdF (f : Nat → Int32) : Prop := (∀ q ∈ wd_gt, q.1 = (806, 806) → ∀ j, pg_in q.2.1 j → av_in q.2.2 (0, (f j).toInt)) ∧ crewF f ∧ stF f ∧ blF f 0
theorem wd_gt_806 : wd_gt.all (fun q => !(q.1 == (806, 806)) || decide (q.2.1.2.1 < 4500)) = true := by decide +kernel
theorem gdF_eq {f g : Nat → Int32} (h : ∀ j, j < 4500 → g j = f j) (hf : gdF f) : gdF g := by
  obtain ⟨a1, a2, a3, a4⟩ := hf
  refine ⟨fun q hq hc j hj => ?_, crewF_eq (h _ (by omega)) (h _ (by omega)) (fun k hk => h _ (by omega)) (fun j w hj hw => h _ (by omega)) a2,
    stF_eq (fun p hp => h _ (by omega)) (fun p hp => h _ (by omega)) (fun p hp => h _ (by omega)) (fun p hp => h _ (by omega)) a3, blF_eq (h _ (by omega)) (fun c hc => h _ (by omega)) a4⟩
  have hb := List.all_eq_true.mp wd_gt_806 q hq
  rw [hc] at hb
  have hb2 : q.2.1.2.1 < 4500 := by simpa using hb
  rw [h j (by have := hj.2.1; omega)]
  exact a1 q hq hc j hj
def sameX (f g : Nat → Int32) : Prop := (∀ j, j ≤ 7 → g j = f j) ∧ ∀ j, 500 ≤ j → j ≤ 515 → g j = f j
def wasF (S : fw_S) : Prop := gdF (S.1 808) ∧ sameX (S.1 806) (S.1 808)
def imgF (S : fw_S) : Prop := ∀ w : Nat, w < 2 → (S.1 812 w).toInt ≠ 0 → gdF (fun k => S.1 810 (4500 * w + k))
/-- a neighbour that is nearer by one street that isn't closed -/
def ngh (S : fw_S) (x : Int) (c : Nat) : Prop := ∃ t : Nat, t ≤ 16 ∧ ¬ clP S t ∧ jn t x c ∧ (S.1 814 c).toInt + 1 = (S.1 814 x.toNat).toInt ∧ (S.1 814 c).toInt ≠ -1
/-- the ends of a street: the class's tables -/
def lowT (s : Int) : Int := (Int32.ofInt (([0, 1, 2, 4, 5, 6, 8, 9, 10, 0, 1, 2, 3, 4, 5, 6, 7] : List Int).getD s.toNat 0)).toInt
def highT (s : Int) : Int := (Int32.ofInt (([1, 2, 3, 5, 6, 7, 9, 10, 11, 4, 5, 6, 7, 8, 9, 10, 11] : List Int).getD s.toNat 0)).toInt
def exitT (d : Int) : Int := (Int32.ofInt (([-1, -1, 0, 9, -1, 0, 1, 10, -1, 1, 2, 11, -1, 2, -1, 12, 9, -1, 3, 13, 10, 3, 4, 14, 11, 4, 5, 15, 12, 5, -1, 16, 13, -1, 6, -1, 14, 6, 7, -1, 15, 7, 8, -1, 16, 8, -1, -1] : List Int).getD d.toNat 0)).toInt
def othT (s c : Int) : Int := lowT s + highT s - c
theorem exit_ok : ∀ a : Fin 12, ∀ j : Fin 4, exitT (4 * (a.val : Int) + (j.val : Int)) = -1 ∨ (0 ≤ othT (exitT (4 * (a.val : Int) + (j.val : Int))) a.val ∧ othT (exitT (4 * (a.val : Int) + (j.val : Int))) a.val ≤ 11) := by decide +kernel
theorem exit_in {a d : Int} (ha : 0 ≤ a ∧ a ≤ 11) (hd : 4 * a ≤ d ∧ d < 4 * a + 4) (h : exitT d ≠ -1) : 0 ≤ othT (exitT d) a ∧ othT (exitT d) a ≤ 11 := by
  have h1 := exit_ok ⟨a.toNat, by omega⟩ ⟨(d - 4 * a).toNat, by omega⟩
  have e1 : ((a.toNat : Nat) : Int) = a := Int.toNat_of_nonneg ha.1
  have e2 : (((d - 4 * a).toNat : Nat) : Int) = d - 4 * a := Int.toNat_of_nonneg (by omega)
  dsimp only at h1
  rw [e1, e2, show 4 * a + (d - 4 * a) = d by omega] at h1
  rcases h1 with g | g
  · exact absurd g h
  · exact g
/-- what a search has found so far: F how far, V by which street, M met, r how many, from st on -/
def wyI (F V M : Int → Int) (r st : Int) : Prop := 1 ≤ r ∧ r ≤ 12 ∧ F st = 0 ∧ (∀ i : Int, 0 ≤ i → i < r → 0 ≤ M i ∧ M i ≤ 11 ∧ 0 ≤ F (M i) ∧ F (M i) ≤ i ∧ (1 ≤ i → 1 ≤ F (M i))) ∧
  (∀ c : Int, 0 ≤ c → c ≤ 11 → -1 ≤ F c ∧ (F c = 0 → c = st) ∧ (1 ≤ F c → 0 ≤ othT (V c) c ∧ othT (V c) c ≤ 11 ∧ F (othT (V c) c) = F c - 1))
theorem wy_start {F F' V M : Int → Int} {st : Int} (h : ∀ c : Int, 0 ≤ c → c ≤ 11 → F c = -1) (hs : 0 ≤ st ∧ st ≤ 11) (hF : ∀ c : Int, 0 ≤ c → c ≤ 11 → F' c = if c = st then 0 else F c) (hM : M 0 = st) : wyI F' V M 1 st := by
  have e : F' st = 0 := by rw [hF st hs.1 hs.2, if_pos rfl]
  refine ⟨by omega, by omega, e, fun i h1 h2 => ?_, fun c h1 h2 => ?_⟩
  · have : i = 0 := by omega
    subst this
    rw [hM, e]
    omega
  · rw [hF c h1 h2]
    by_cases g : c = st
    · rw [if_pos g]
      exact ⟨by omega, fun _ => g, fun q => by omega⟩
    · rw [if_neg g, h c h1 h2]
      exact ⟨by omega, fun q => by omega, fun q => by omega⟩
theorem wy_add {F F' V V' M : Int → Int} {r st k a n s : Int} (h : wyI F V M r st) (hk : 0 ≤ k ∧ k < r) (hr : r < 12) (ha : a = M k) (hn : n = othT s a) (hn1 : 0 ≤ n ∧ n ≤ 11) (hf : F n = -1)
    (hF : ∀ c : Int, 0 ≤ c → c ≤ 11 → F' c = if c = n then F a + 1 else F c) (hV : ∀ c : Int, 0 ≤ c → c ≤ 11 → V' c = if c = n then s else V c) : wyI F' V' M r st ∧ 1 ≤ F' n ∧ F' n ≤ r ∧ F a + 1 ≤ 11 := by
  obtain ⟨h1, h2, h3, h4, h5⟩ := h
  obtain ⟨m1, m2, m3, m4⟩ := h4 k hk.1 hk.2
  rw [← ha] at m1 m2 m3 m4
  have hst : st ≠ n := fun e => by rw [e, hf] at h3; omega
  have hs0 : 0 ≤ st ∧ st ≤ 11 → F' st = 0 := fun q => by rw [hF st q.1 q.2, if_neg hst]; exact h3
  have hst2 : 0 ≤ st ∧ st ≤ 11 := by
    obtain ⟨q1, q2, q3, q4⟩ := h4 0 (by omega) (by omega)
    have q5 := (h5 (M 0) q1 q2).2.1 (by omega)
    omega
  have en : F' n = F a + 1 := by rw [hF n hn1.1 hn1.2, if_pos rfl]
  have back : othT s n = a := by unfold othT at hn ⊢; omega
  refine ⟨⟨h1, h2, hs0 hst2, fun i i1 i2 => ?_, fun c c1 c2 => ?_⟩, by omega, by omega, by omega⟩
  · obtain ⟨q1, q2, q3, q4⟩ := h4 i i1 i2
    refine ⟨q1, q2, ?_⟩
    rw [hF _ q1 q2]
    by_cases g : M i = n
    · rw [g, hf] at q3; omega
    · rw [if_neg g]; omega
  · obtain ⟨q1, q2, q3⟩ := h5 c c1 c2
    by_cases g : c = n
    · rw [hF c c1 c2, if_pos g, hV c c1 c2, if_pos g]
      refine ⟨by omega, fun q => by omega, fun _ => ?_⟩
      rw [g, back]
      refine ⟨m1, m2, ?_⟩
      have ga : a ≠ n := fun e => by rw [e, hf] at m3; omega
      rw [hF a m1 m2, if_neg ga]
      omega
    · rw [hF c c1 c2, if_neg g, hV c c1 c2, if_neg g]
      refine ⟨q1, q2, fun q => ?_⟩
      obtain ⟨w1, w2, w3⟩ := q3 q
      refine ⟨w1, w2, ?_⟩
      rw [hF _ w1 w2]
      by_cases g2 : othT (V c) c = n
      · rw [g2, hf] at w3; omega
      · rw [if_neg g2]; exact w3
theorem wy_met {F V M M' : Int → Int} {r st n : Int} (h : wyI F V M r st) (hr : r < 12) (hn : 0 ≤ n ∧ n ≤ 11) (hf : 1 ≤ F n ∧ F n ≤ r) (hM : ∀ i : Int, 0 ≤ i → i ≤ 11 → M' i = if i = r then n else M i) : wyI F V M' (r + 1) st := by
  obtain ⟨h1, h2, h3, h4, h5⟩ := h
  refine ⟨by omega, by omega, h3, fun i i1 i2 => ?_, h5⟩
  rw [hM i i1 (by omega)]
  by_cases g : i = r
  · rw [if_pos g, g]; omega
  · rw [if_neg g]; exact h4 i i1 (by omega)
def yF (S : fw_S) (c : Int) : Int := (S.1 4 c.toNat).toInt
def yV (S : fw_S) (c : Int) : Int := (S.1 5 c.toNat).toInt
def yM (S : fw_S) (c : Int) : Int := (S.1 6 c.toNat).toInt
def yR (S : fw_S) : Int := (S.1 2 4).toInt
/-- the ways lead back to where they began -/
def wyF (S : fw_S) : Prop := ∃ st : Int, (0 ≤ st ∧ st ≤ 11) ∧ yF S st = 0 ∧ ∀ c : Int, 0 ≤ c → c ≤ 11 → -1 ≤ yF S c ∧ (yF S c = 0 → c = st) ∧ (1 ≤ yF S c → 0 ≤ othT (yV S c) c ∧ othT (yV S c) c ≤ 11 ∧ yF S (othT (yV S c) c) = yF S c - 1)
theorem wyF_eq {S S' : fw_S} (k4 : ∀ j : Nat, j ≤ 11 → S'.1 4 j = S.1 4 j) (k5 : ∀ j : Nat, j ≤ 11 → S'.1 5 j = S.1 5 j) (h : wyF S) : wyF S' := by
  obtain ⟨st, a, b, h⟩ := h
  have f : ∀ c : Int, 0 ≤ c → c ≤ 11 → yF S' c = yF S c := fun c _ _ => by unfold yF; rw [k4 _ (by omega)]
  have g : ∀ c : Int, 0 ≤ c → c ≤ 11 → yV S' c = yV S c := fun c _ _ => by unfold yV; rw [k5 _ (by omega)]
  refine ⟨st, a, (f st a.1 a.2).trans b, fun c h1 h2 => ?_⟩
  rw [f c h1 h2, g c h1 h2]
  obtain ⟨p1, p2, p3⟩ := h c h1 h2
  exact ⟨p1, p2, fun q => by obtain ⟨w1, w2, w3⟩ := p3 q; exact ⟨w1, w2, (f _ w1 w2).trans w3⟩⟩
/-- a job at a customer's names a customer -/
def jbW (S : fw_S) : Prop := ∀ j : Nat, j < 200 → 4 ≤ (S.1 (579 + j) 0).toInt → (S.1 (579 + j) 2).toInt ≤ 9
def nxtS (s : Int) : Int := (75 * s + 74) % 65537
/-- the class's crews, jobs and stores, as the model has them in its row -/
def vF (S : fw_S) : Nat → Int32 := fun i => if i = 2400 then S.1 572 0 else if i = 2440 then S.1 572 2 else if 2450 ≤ i ∧ i < 4050 then S.1 (579 + (i - 2450) / 8) ((i - 2450) % 8) else if 2401 ≤ i ∧ i < 2433 then S.1 (574 + (i - 2401) / 8) ((i - 2401) % 8) else
  if 4060 ≤ i ∧ i < 4064 then S.1 (781 + (i - 4060)) 0 else if 4068 ≤ i ∧ i < 4072 then S.1 (781 + (i - 4068)) 4 else if 4072 ≤ i ∧ i < 4076 then S.1 (781 + (i - 4072)) 5 else if 4076 ≤ i ∧ i < 4080 then S.1 (781 + (i - 4076)) 6 else 0
theorem vF_c {S : fw_S} : vF S 2400 = S.1 572 0 := rfl
theorem vF_j {S : fw_S} : vF S 2440 = S.1 572 2 := rfl
theorem vF_b {S : fw_S} {j w : Nat} (hj : j < 200) (hw : w < 8) : vF S (2450 + 8 * j + w) = S.1 (579 + j) w := by
  unfold vF
  rw [if_neg (by omega), if_neg (by omega), if_pos ⟨by omega, by omega⟩, show (2450 + 8 * j + w - 2450) / 8 = j by omega, show (2450 + 8 * j + w - 2450) % 8 = w by omega]
theorem vF_k {S : fw_S} {k w : Nat} (hk : k < 4) (hw : w < 8) : vF S (2401 + 8 * k + w) = S.1 (574 + k) w := by
  unfold vF
  rw [if_neg (by omega), if_neg (by omega), if_neg (by omega), if_pos ⟨by omega, by omega⟩, show (2401 + 8 * k + w - 2401) / 8 = k by omega, show (2401 + 8 * k + w - 2401) % 8 = w by omega]
theorem vF_s0 {S : fw_S} {p : Nat} (hp : p < 4) : vF S (4060 + p) = S.1 (781 + p) 0 := by
  unfold vF
  rw [if_neg (by omega), if_neg (by omega), if_neg (by omega), if_neg (by omega), if_pos ⟨by omega, by omega⟩, show 4060 + p - 4060 = p by omega]
theorem vF_s4 {S : fw_S} {p : Nat} (hp : p < 4) : vF S (4068 + p) = S.1 (781 + p) 4 := by
  unfold vF
  rw [if_neg (by omega), if_neg (by omega), if_neg (by omega), if_neg (by omega), if_neg (by omega), if_pos ⟨by omega, by omega⟩, show 4068 + p - 4068 = p by omega]
theorem vF_s5 {S : fw_S} {p : Nat} (hp : p < 4) : vF S (4072 + p) = S.1 (781 + p) 5 := by
  unfold vF
  rw [if_neg (by omega), if_neg (by omega), if_neg (by omega), if_neg (by omega), if_neg (by omega), if_neg (by omega), if_pos ⟨by omega, by omega⟩, show 4072 + p - 4072 = p by omega]
theorem vF_s6 {S : fw_S} {p : Nat} (hp : p < 4) : vF S (4076 + p) = S.1 (781 + p) 6 := by
  unfold vF
  rw [if_neg (by omega), if_neg (by omega), if_neg (by omega), if_neg (by omega), if_neg (by omega), if_neg (by omega), if_neg (by omega), if_pos ⟨by omega, by omega⟩, show 4076 + p - 4076 = p by omega]
def wd_base1 (c : Nat) : Bool := [10, 11, 12, 13, 14, 15, 16, 17, 500, 501, 502, 1000, 1001, 1010, 1011, 1012, 1013, 1014, 1015, 1016, 1017, 1018, 1020].contains c
def wd_ff2 : Nat → List md_T := fun g => match g with
  | 504 => [((806, 806), (0, 999, 1)), ((839, 839), (0, 33, 1)), ((827, 829), (0, 6, 1)), ((832, 832), (0, 11, 1)), ((805, 805), (46, 47, 1))]
  | 510 => [((806, 806), (2400, 2400, 0)), ((806, 806), (2404, 2428, 8)), ((806, 806), (2440, 2440, 0)), ((806, 806), (2450, 4049, 1))]
  | 513 => [((806, 806), (4060, 4063, 1)), ((806, 806), (4068, 4079, 1))]
  | 515 => [((806, 806), (0, 0, 0)), ((806, 806), (1820, 2000, 20))]
  | 516 => [((806, 806), (0, 0, 0)), ((806, 806), (1820, 2000, 20))]
  | 517 => [((806, 806), (2440, 2440, 0)), ((806, 806), (2450, 4049, 1))]
  | 514 => [((810, 810), (0, 8999, 1)), ((812, 812), (0, 1, 1))]
  | 503 => [((808, 808), (0, 4499, 1)), ((806, 806), (0, 7, 1)), ((806, 806), (500, 515, 1))]
  | 520 => [((579, 778), (0, 0, 0)), ((579, 778), (2, 2, 0))]
  | 601 => [((4, 4), (0, 11, 1)), ((5, 5), (0, 11, 1))]
  | 521 => [((572, 572), (0, 0, 0)), ((572, 572), (2, 2, 0)), ((574, 577), (3, 3, 0)), ((579, 778), (0, 7, 1))]
  | 522 => [((781, 784), (0, 0, 0)), ((781, 784), (4, 6, 1))]
  | g => wd_ff1 g
def wd_fl2 : fl_T := fun c r x y S => if wd_base1 c = true then wd_fl1 c r x y S else match c with
  | 504 => wOK S
  | 510 => crewF (S.1 806)
  | 513 => stF (S.1 806)
  | 515 => blF (S.1 806) 0
  | 516 => blF (S.1 806) 1
  | 517 => roomF (S.1 806)
  | 514 => imgF S
  | 503 => wasF S
  | 520 => jbW S
  | 601 => wyF S
  | 521 => crewF (vF S)
  | 522 => stF (vF S)
  | 40 => r = b2i (0 ≤ x ∧ x ≤ 1)
  | 41 => r = b2i ((-30) ≤ x ∧ x ≤ 40)
  | 42 => r = b2i (0 ≤ x ∧ x ≤ 9)
  | 43 => r = b2i (0 ≤ x ∧ x ≤ 65536)
  | 44 => r = b2i (0 ≤ x ∧ x ≤ 2)
  | 45 => r = b2i (1 ≤ x ∧ x ≤ 9)
  | 46 => r = b2i (1 ≤ x ∧ x ≤ 60)
  | 1019 => r = lkv S x y 1
  | 1021 => r = b2i (wOpP S x y)
  | 1022 => r = wRm S x
  | 1023 => r = hgt S x
  | 19 => r = 1 → x ≤ y
  | 1032 => r = 1 → x < (S.1 806 2400).toInt
  | 21 => r = stFirst x.toNat
  | 1033 => r = (S.1 806 0).toInt
  | 1030 => r = opS (S.1 806) (S.1 806 2440).toInt.toNat
  | 1031 => r = 1 → mjk (S.1 806) x.toNat 4 = 0
  | 1041 => r = b2i (¬ mjk (vF S) x.toNat 4 < 2)
  | 1042 => r = opS (vF S) (S.1 572 2).toInt.toNat
  | 1043 => r = b2i (0 ≤ x ∧ x < (S.1 572 0).toInt)
  | 1045 => r = nxtS (S.1 794 4).toInt
  | 1024 => (∃ y : Nat, y < 12 ∧ ngh S x y) → 0 ≤ r ∧ r ≤ 11 ∧ (S.1 814 r.toNat).toInt + 1 = (S.1 814 x.toNat).toInt
  | _ => False
theorem pg_mk {lo hi st j : Nat} (h1 : lo ≤ j) (h2 : j ≤ hi) (h3 : st ∣ (j - lo)) : pg_in (lo, hi, st) j := ⟨h1, h2, h3⟩
theorem md_at_p {ms : List md_T} {c lo hi st k : Nat} (h : ((c, c), (lo, hi, st)) ∈ ms) (h1 : lo ≤ k) (h2 : k ≤ hi) (h3 : st ∣ (k - lo)) : md_at ms c k := ⟨_, h, Nat.le_refl _, Nat.le_refl _, h1, h2, h3⟩
theorem wd_fl2_ok : fl_ok wd_ff2 wd_fl2 := by
  refine ⟨fun g S S' hg hk hr h => ?_, fun c r x y S S' hc h => ?_⟩
  · unfold wd_fl2 at h ⊢
    split at h
    · rename_i hb
      rw [if_pos hb]
      refine wd_fl1_ok.1 g S S' hg (fun k j hkj => hk k j ?_) hr h
      unfold wd_ff2
      split
      all_goals first | exact hkj | exact absurd hb (by decide)
    · rename_i hb
      rw [if_neg hb]
      split at h
      · have k6 : ∀ j, j ≤ 999 → S'.1 806 j = S.1 806 j := fun j a => (hk 806 j (md_at_in List.mem_cons_self (by omega) a)).1
        have k9 : ∀ j, j ≤ 33 → S'.1 839 j = S.1 839 j := fun j a => (hk 839 j (md_at_in (List.mem_cons_of_mem _ List.mem_cons_self) (by omega) a)).1
        have k7 : ∀ k j, 827 ≤ k → k ≤ 829 → j ≤ 6 → S'.1 k j = S.1 k j := fun k j a b c => (hk k j ⟨_, List.mem_cons_of_mem _ (List.mem_cons_of_mem _ List.mem_cons_self), a, b, Nat.zero_le _, c, Nat.one_dvd _⟩).1
        have k2 : ∀ j, j ≤ 11 → S'.1 832 j = S.1 832 j := fun j a => (hk 832 j (md_at_in (List.mem_cons_of_mem _ (List.mem_cons_of_mem _ (List.mem_cons_of_mem _ List.mem_cons_self))) (by omega) a)).1
        have k5 : ∀ j, 46 ≤ j → j ≤ 47 → S'.1 805 j = S.1 805 j := fun j a b => (hk 805 j (md_at_in (List.mem_cons_of_mem _ (List.mem_cons_of_mem _ (List.mem_cons_of_mem _ (List.mem_cons_of_mem _ List.mem_cons_self)))) a b)).1
        obtain ⟨a1, a2, a3, a4, a5, a6, n, n1, n2⟩ := h
        unfold wOK
        rw [k5 46 (by omega) (by omega), k5 47 (by omega) (by omega), k7 829 _ (by omega) (by omega) (by omega), k2 _ (by omega), k7 828 _ (by omega) (by omega) (by omega), k7 827 _ (by omega) (by omega) (by omega)]
        exact ⟨a1, a2, a3, a4, a5, a6, n, n1, wP_eq k6 k9 ⟨a3, a4⟩ n2⟩
      · exact crewF_eq (hk 806 2400 (md_at_p (lo := 2400) (hi := 2400) (st := 0) (by decide) (by decide) (by decide) (by decide))).1 (hk 806 2440 (md_at_p (lo := 2440) (hi := 2440) (st := 0) (by decide) (by decide) (by decide) (by decide))).1
          (fun k hk' => (hk 806 _ (md_at_p (lo := 2404) (hi := 2428) (st := 8) (by decide) (by omega) (by omega) (by omega))).1)
          (fun j w hj hw => (hk 806 _ (md_at_p (lo := 2450) (hi := 4049) (st := 1) (by decide) (by omega) (by omega) (Nat.one_dvd _))).1) h
      · exact stF_eq (fun p hp => (hk 806 _ (md_at_p (lo := 4060) (hi := 4063) (st := 1) (by decide) (by omega) (by omega) (Nat.one_dvd _))).1)
          (fun p hp => (hk 806 _ (md_at_p (lo := 4068) (hi := 4079) (st := 1) (by decide) (by omega) (by omega) (Nat.one_dvd _))).1)
          (fun p hp => (hk 806 _ (md_at_p (lo := 4068) (hi := 4079) (st := 1) (by decide) (by omega) (by omega) (Nat.one_dvd _))).1)
          (fun p hp => (hk 806 _ (md_at_p (lo := 4068) (hi := 4079) (st := 1) (by decide) (by omega) (by omega) (Nat.one_dvd _))).1) h
      · exact blF_eq (hk 806 0 (md_at_p (lo := 0) (hi := 0) (st := 0) (by decide) (by decide) (by decide) (by decide))).1
          (fun c hc => (hk 806 _ (md_at_p (lo := 1820) (hi := 2000) (st := 20) (by decide) (by omega) (by omega) (by omega))).1) h
      · exact blF_eq (hk 806 0 (md_at_p (lo := 0) (hi := 0) (st := 0) (by decide) (by decide) (by decide) (by decide))).1
          (fun c hc => (hk 806 _ (md_at_p (lo := 1820) (hi := 2000) (st := 20) (by decide) (by omega) (by omega) (by omega))).1) h
      · exact roomF_eq (hk 806 2440 (md_at_p (lo := 2440) (hi := 2440) (st := 0) (by decide) (by decide) (by decide) (by decide))).1
          (fun j w hj hw => (hk 806 _ (md_at_p (lo := 2450) (hi := 4049) (st := 1) (by decide) (by omega) (by omega) (Nat.one_dvd _))).1) h
      · intro w hw h1
        have e12 : S'.1 812 w = S.1 812 w := (hk 812 w (md_at_p (lo := 0) (hi := 1) (st := 1) (by decide) (by omega) (by omega) (Nat.one_dvd _))).1
        rw [e12] at h1
        exact gdF_eq (fun j hj => (hk 810 _ (md_at_p (lo := 0) (hi := 8999) (st := 1) (by decide) (by omega) (by omega) (Nat.one_dvd _))).1) (h w hw h1)
      · have k8 : ∀ j, j < 4500 → S'.1 808 j = S.1 808 j := fun j hj => (hk 808 j (md_at_p (lo := 0) (hi := 4499) (st := 1) (by decide) (by omega) (by omega) (Nat.one_dvd _))).1
        refine ⟨gdF_eq k8 h.1, fun j hj => ?_, fun j hj hj2 => ?_⟩
        · rw [k8 j (by omega), (hk 806 j (md_at_p (lo := 0) (hi := 7) (st := 1) (by decide) (by omega) (by omega) (Nat.one_dvd _))).1]
          exact h.2.1 j hj
        · rw [k8 j (by omega), (hk 806 j (md_at_p (lo := 500) (hi := 515) (st := 1) (by decide) (by omega) (by omega) (Nat.one_dvd _))).1]
          exact h.2.2 j hj hj2
      · intro j hj h1
        have e0 := (hk (579 + j) 0 ⟨_, List.mem_cons_self, (by show 579 ≤ 579 + j; omega), (by show 579 + j ≤ 778; omega), pg_mk (by omega) (by omega) (by omega)⟩).1
        have e2 := (hk (579 + j) 2 ⟨_, List.mem_cons_of_mem _ List.mem_cons_self, (by show 579 ≤ 579 + j; omega), (by show 579 + j ≤ 778; omega), pg_mk (by omega) (by omega) (by omega)⟩).1
        rw [e0] at h1
        rw [e2]
        exact h j hj h1
      · exact wyF_eq (fun j hj => (hk 4 j (md_at_p (lo := 0) (hi := 11) (st := 1) (by decide) (by omega) (by omega) (Nat.one_dvd _))).1)
          (fun j hj => (hk 5 j (md_at_p (lo := 0) (hi := 11) (st := 1) (by decide) (by omega) (by omega) (Nat.one_dvd _))).1) h
      · refine crewF_eq ?_ ?_ (fun k hk' => ?_) (fun j w hj hw => ?_) h
        · rw [vF_c, vF_c]; exact (hk 572 0 (md_at_p (lo := 0) (hi := 0) (st := 0) (by decide) (by decide) (by decide) (by decide))).1
        · rw [vF_j, vF_j]; exact (hk 572 2 (md_at_p (lo := 2) (hi := 2) (st := 0) (by decide) (by decide) (by decide) (by decide))).1
        · rw [vF_k hk' (by decide), vF_k hk' (by decide)]
          exact (hk (574 + k) 3 ⟨((574, 577), (3, 3, 0)), by decide, (by show 574 ≤ 574 + k; omega), (by show 574 + k ≤ 577; omega), pg_mk (by omega) (by omega) (by omega)⟩).1
        · rw [vF_b hj hw, vF_b hj hw]
          exact (hk (579 + j) w ⟨((579, 778), (0, 7, 1)), by decide, (by show 579 ≤ 579 + j; omega), (by show 579 + j ≤ 778; omega), pg_mk (by omega) (by omega) (Nat.one_dvd _)⟩).1
      · have e : ∀ p w, p < 4 → (w = 0 ∨ 4 ≤ w ∧ w ≤ 6) → S'.1 (781 + p) w = S.1 (781 + p) w := fun p w hp hw => by
          rcases hw with rfl | hw
          · exact (hk (781 + p) 0 ⟨((781, 784), (0, 0, 0)), by decide, (by show 781 ≤ 781 + p; omega), (by show 781 + p ≤ 784; omega), pg_mk (by omega) (by omega) (by omega)⟩).1
          · exact (hk (781 + p) w ⟨((781, 784), (4, 6, 1)), by decide, (by show 781 ≤ 781 + p; omega), (by show 781 + p ≤ 784; omega), pg_mk (by omega) (by omega) (Nat.one_dvd _)⟩).1
        exact stF_eq (fun p hp => by rw [vF_s0 hp, vF_s0 hp]; exact e p 0 hp (Or.inl rfl)) (fun p hp => by rw [vF_s4 hp, vF_s4 hp]; exact e p 4 hp (Or.inr (by omega))) (fun p hp => by rw [vF_s5 hp, vF_s5 hp]; exact e p 5 hp (Or.inr (by omega))) (fun p hp => by rw [vF_s6 hp, vF_s6 hp]; exact e p 6 hp (Or.inr (by omega))) h
      all_goals first | exact h.elim | omega
  · unfold wd_fl2 at h ⊢
    split at h
    · rename_i hb
      rw [if_pos hb]
      exact wd_fl1_ok.2 c r x y S S' hc h
    · rename_i hb
      rw [if_neg hb]
      split at h
      all_goals first | exact h | exact h.elim | omega
def ct_base1 (C : ct_T) : Bool := C.2.2.2.1.all wd_base1 && C.2.2.2.2.1.all (fun q => q.2.2.2.2.1.all wd_base1 && q.2.2.2.2.2.all (fun w => wd_base1 w.1))
theorem fl2_b {c : Nat} {r x y : Int} {S : fw_S} (hc : wd_base1 c = true) (h : wd_fl2 c r x y S) : wd_fl1 c r x y S := by
  unfold wd_fl2 at h
  rw [if_pos hc] at h
  exact h
theorem fl2_o {c : Nat} {r x y : Int} {S : fw_S} (hc : wd_base1 c = true) (h : wd_fl1 c r x y S) : wd_fl2 c r x y S := by
  unfold wd_fl2
  rw [if_pos hc]
  exact h
theorem ct_post2 {ad sm : Nat → Nat} {C : ct_T} {mod : List md_T} {xs : List av_X} {S S' : fw_S} {oc : fw_O} (hb : ct_base1 C = true) (hp : ct_post ad sm wd_fl1 mod C.2.2.2.2.1 xs S oc S') : ct_post ad sm wd_fl2 mod C.2.2.2.2.1 xs S oc S' := by
  rw [ct_base1, Bool.and_eq_true] at hb
  obtain ⟨q, q1, q2, q3, q4, q5, q6, q7⟩ := hp
  have h6 := List.all_eq_true.mp hb.2 q q1
  rw [Bool.and_eq_true] at h6
  refine ⟨q, q1, q2, q3, q4, fun g hg => fl2_o (List.all_eq_true.mp h6.1 g hg) (q5 g hg), fun w hw v hv => ?_, q7⟩
  obtain ⟨x, y, x1, x2, x3⟩ := q6 w hw v hv
  exact ⟨x, y, x1, x2, fl2_o (List.all_eq_true.mp h6.2 w hw) x3⟩
theorem ct_lift2 {C : ct_T} (h : ct_ok wd_fl1 C) (hb : ct_base1 C = true) : ct_ok wd_fl2 C := by
  intro y hy l D tc ad kd N sm xs S hK h1 h2 h3 h4
  have hb1 := hb
  rw [ct_base1, Bool.and_eq_true] at hb1
  exact fw_Met_mono (h y hy l D tc ad kd N sm xs S hK h1 h2 (fun g hg => fl2_b (List.all_eq_true.mp hb1.1 g hg) (h3 g hg)) h4) (fun oc S' hp => ct_post2 hb hp)
theorem ct_lift2R {C : ct_T} {R : List av_X → fw_S → fw_O → fw_S → Prop} (h : ct_okR wd_fl1 C R) (hb : ct_base1 C = true) : ct_okR wd_fl2 C R := by
  intro y hy l D tc ad kd N sm xs S hK h1 h2 h3 h4
  have hb1 := hb
  rw [ct_base1, Bool.and_eq_true] at hb1
  exact fw_Met_mono (h y hy l D tc ad kd N sm xs S hK h1 h2 (fun g hg => fl2_b (List.all_eq_true.mp hb1.1 g hg) (h3 g hg)) h4) (fun oc S' hp => ⟨ct_post2 hb hp.1, hp.2⟩)
theorem kh_link_l2 : ct_ok wd_fl2 kh_link := ct_lift2 kh_link_ok (by decide)
theorem kh_leads_l2 : ct_ok wd_fl2 kh_leads := ct_lift2 kh_leads_ok (by decide)
theorem kh_low_l2 : ct_ok wd_fl2 kh_low := ct_lift2 kh_low_l (by decide)
theorem kh_high_l2 : ct_ok wd_fl2 kh_high := ct_lift2 kh_high_l (by decide)
theorem kh_streetBetween_l2 : ct_ok wd_fl2 kh_streetBetween := ct_lift2 kh_streetBetween_ok (by decide)
theorem kh_384_l2 : ct_ok wd_fl2 kh_384 := ct_lift2 kh_384_l (by decide)
theorem kh_hasLink_l2 : ct_ok wd_fl2 kh_hasLink := ct_lift2 kh_hasLink_ok (by decide)
theorem kh_isFine_l2 : ct_ok wd_fl2 kh_isFine := ct_lift2 kh_isFine_ok (by decide)
theorem kh_isOn_l2 : ct_ok wd_fl2 kh_isOn := ct_lift2 kh_isOn_ok (by decide)
theorem kh_291_l2 : ct_ok wd_fl2 kh_291 := ct_lift2 kh_291_l (by decide)
theorem kh_290_l2 : ct_ok wd_fl2 kh_290 := ct_lift2 kh_290_l (by decide)
theorem kh_396_l2 : ct_ok wd_fl2 kh_396 := ct_lift2 kh_396_l (by decide)
theorem kh_388_l2 : ct_ok wd_fl2 kh_388 := ct_lift2 kh_388_l (by decide)
theorem kh_389_l2 : ct_ok wd_fl2 kh_389 := ct_lift2 kh_389_l (by decide)
theorem kh_390_l2 : ct_ok wd_fl2 kh_390 := ct_lift2 kh_390_l (by decide)
theorem kh_393_l2 : ct_ok wd_fl2 kh_393 := ct_lift2 kh_393_l (by decide)
theorem kh_395_l2 : ct_ok wd_fl2 kh_395 := ct_lift2 kh_395_l (by decide)
theorem kh_ranks_l2 : ct_ok wd_fl2 kh_ranks := ct_lift2 kh_ranks_l (by decide)
theorem kh_isClosed_l2 : ct_ok wd_fl2 kh_isClosed := ct_lift2 kh_isClosed_ok (by decide)
theorem kh_farFrom_l2 : ct_ok wd_fl2 kh_farFrom := ct_lift2 kh_farFrom_ok (by decide)
theorem kh_405_l2 : ct_ok wd_fl2 kh_405 := ct_lift2 kh_405_ok (by decide)
theorem kh_407_l2 : ct_ok wd_fl2 kh_407 := ct_lift2 kh_407_ok (by decide)
theorem kh_408_l2 : ct_ok wd_fl2 kh_408 := ct_lift2 kh_408_ok (by decide)
theorem kh_409_l2 : ct_ok wd_fl2 kh_409 := ct_lift2 kh_409_ok (by decide)
theorem kh_411_l2 : ct_ok wd_fl2 kh_411 := ct_lift2 kh_411_ok (by decide)
theorem kh_412_l2 : ct_ok wd_fl2 kh_412 := ct_lift2 kh_412_ok (by decide)
theorem kh_413_l2 : ct_ok wd_fl2 kh_413 := ct_lift2 kh_413_ok (by decide)
theorem kh_414_l2 : ct_ok wd_fl2 kh_414 := ct_lift2 kh_414_ok (by decide)
theorem kh_415_l2 : ct_ok wd_fl2 kh_415 := ct_lift2 kh_415_ok (by decide)
theorem kh_416_l2 : ct_ok wd_fl2 kh_416 := ct_lift2 kh_416_ok (by decide)
theorem kh_417_l2 : ct_ok wd_fl2 kh_417 := ct_lift2 kh_417_ok (by decide)
theorem kh_418_l2 : ct_ok wd_fl2 kh_418 := ct_lift2 kh_418_ok (by decide)
theorem kh_419_l2 : ct_ok wd_fl2 kh_419 := ct_lift2 kh_419_ok (by decide)
theorem kh_420_l2 : ct_ok wd_fl2 kh_420 := ct_lift2 kh_420_ok (by decide)
theorem kh_reachFrom_l2 : ct_ok wd_fl2 kh_reachFrom := ct_lift2 kh_reachFrom_l (by decide)
theorem kh_isDug_l2 : ct_ok wd_fl2 kh_isDug := ct_lift2 kh_isDug_ok (by decide)
theorem kh_powerDeal_l2 : ct_ok wd_fl2 kh_powerDeal := ct_lift2 (ct_lift kh_powerDeal_ok (by decide)) (by decide)
theorem kh_heatDeal_l2 : ct_ok wd_fl2 kh_heatDeal := ct_lift2 kh_heatDeal_ok (by decide)
theorem kh_421_l2 : ct_ok wd_fl2 kh_421 := ct_lift2 kh_421_ok (by decide)
theorem kh_hFuel_l2 : ct_ok wd_fl2 kh_hFuel := ct_lift2 kh_hFuel_ok (by decide)
theorem kh_397_l2 : ct_ok wd_fl2 kh_397 := ct_lift2 (ct_lift kh_397_ok (by decide)) (by decide)
theorem kh_399_l2 : ct_ok wd_fl2 kh_399 := ct_lift2 (ct_lift kh_399_ok (by decide)) (by decide)
theorem kh_bC_l2 : ct_ok wd_fl2 kh_bC := ct_lift2 (ct_lift kh_bC_ok (by decide)) (by decide)
theorem kh_mC_l2 : ct_ok wd_fl2 kh_mC := ct_lift2 (ct_lift kh_mC_ok (by decide)) (by decide)
theorem kh_rankOf_l2 : ct_ok wd_fl2 kh_rankOf := ct_lift2 (ct_lift kh_rankOf_ok (by decide)) (by decide)
theorem kh_468_l2 : ct_ok wd_fl2 kh_468 := ct_lift2 kh_468_ok (by decide)
theorem kh_476_l2 : ct_ok wd_fl2 kh_476 := ct_lift2 kh_476_ok (by decide)
theorem kh_483_l2 : ct_ok wd_fl2 kh_483 := ct_lift2 kh_483_ok (by decide)
theorem kh_490_l2 : ct_ok wd_fl2 kh_490 := ct_lift2 kh_490_ok (by decide)
theorem kh_497_l2 : ct_ok wd_fl2 kh_497 := ct_lift2 kh_497_ok (by decide)
theorem kh_504_l2 : ct_ok wd_fl2 kh_504 := ct_lift2 kh_504_ok (by decide)
theorem kh_511_l2 : ct_ok wd_fl2 kh_511 := ct_lift2 kh_511_ok (by decide)
theorem kh_518_l2 : ct_ok wd_fl2 kh_518 := ct_lift2 kh_518_ok (by decide)
theorem kh_525_l2 : ct_ok wd_fl2 kh_525 := ct_lift2 kh_525_ok (by decide)
theorem kh_400_l2 : ct_ok wd_fl2 kh_400 := ct_lift2 (ct_lift kh_400_ok (by decide)) (by decide)
theorem kh_424_l2 : ct_ok wd_fl2 kh_424 := ct_lift2 kh_424_ok (by decide)
theorem kh_530_l2 : ct_ok wd_fl2 kh_530 := ct_lift2 kh_530_ok (by decide)
theorem kh_532_l2 : ct_ok wd_fl2 kh_532 := ct_lift2 kh_532_ok (by decide)
theorem kh_472_l2 : ct_ok wd_fl2 kh_472 := ct_lift2 kh_472_ok (by decide)
theorem kh_heatDay_l2 : ct_ok wd_fl2 kh_heatDay := ct_lift2 kh_heatDay_ok (by decide)
theorem kh_148_l2 : ct_ok wd_fl2 kh_148 := ct_lift2 (ct_lift kh_148_ok (by decide)) (by decide)
theorem kh_150_l2 : ct_ok wd_fl2 kh_150 := ct_lift2 (ct_lift kh_150_ok (by decide)) (by decide)
theorem kh_160_l2 : ct_ok wd_fl2 kh_160 := ct_lift2 (ct_lift kh_160_ok (by decide)) (by decide)
theorem kh_162_l2 : ct_ok wd_fl2 kh_162 := ct_lift2 (ct_lift kh_162_ok (by decide)) (by decide)
theorem kh_172_l2 : ct_ok wd_fl2 kh_172 := ct_lift2 (ct_lift kh_172_ok (by decide)) (by decide)
theorem kh_174_l2 : ct_ok wd_fl2 kh_174 := ct_lift2 (ct_lift kh_174_ok (by decide)) (by decide)
theorem kh_184_l2 : ct_ok wd_fl2 kh_184 := ct_lift2 (ct_lift kh_184_ok (by decide)) (by decide)
theorem kh_186_l2 : ct_ok wd_fl2 kh_186 := ct_lift2 (ct_lift kh_186_ok (by decide)) (by decide)
theorem kh_196_l2 : ct_ok wd_fl2 kh_196 := ct_lift2 (ct_lift kh_196_ok (by decide)) (by decide)
theorem kh_197_l2 : ct_ok wd_fl2 kh_197 := ct_lift2 (ct_lift kh_197_ok (by decide)) (by decide)
theorem kh_206_l2 : ct_ok wd_fl2 kh_206 := ct_lift2 (ct_lift kh_206_ok (by decide)) (by decide)
theorem kh_207_l2 : ct_ok wd_fl2 kh_207 := ct_lift2 (ct_lift kh_207_ok (by decide)) (by decide)
theorem kh_216_l2 : ct_ok wd_fl2 kh_216 := ct_lift2 (ct_lift kh_216_ok (by decide)) (by decide)
theorem kh_218_l2 : ct_ok wd_fl2 kh_218 := ct_lift2 (ct_lift kh_218_ok (by decide)) (by decide)
theorem kh_228_l2 : ct_ok wd_fl2 kh_228 := ct_lift2 (ct_lift kh_228_ok (by decide)) (by decide)
theorem kh_229_l2 : ct_ok wd_fl2 kh_229 := ct_lift2 (ct_lift kh_229_ok (by decide)) (by decide)
theorem kh_238_l2 : ct_ok wd_fl2 kh_238 := ct_lift2 (ct_lift kh_238_ok (by decide)) (by decide)
theorem kh_239_l2 : ct_ok wd_fl2 kh_239 := ct_lift2 (ct_lift kh_239_ok (by decide)) (by decide)
theorem kh_248_l2 : ct_ok wd_fl2 kh_248 := ct_lift2 (ct_lift kh_248_ok (by decide)) (by decide)
theorem kh_250_l2 : ct_ok wd_fl2 kh_250 := ct_lift2 (ct_lift kh_250_ok (by decide)) (by decide)
theorem kh_260_l2 : ct_ok wd_fl2 kh_260 := ct_lift2 (ct_lift kh_260_ok (by decide)) (by decide)
theorem kh_261_l2 : ct_ok wd_fl2 kh_261 := ct_lift2 (ct_lift kh_261_ok (by decide)) (by decide)
theorem kh_270_l2 : ct_ok wd_fl2 kh_270 := ct_lift2 (ct_lift kh_270_ok (by decide)) (by decide)
theorem kh_271_l2 : ct_ok wd_fl2 kh_271 := ct_lift2 (ct_lift kh_271_ok (by decide)) (by decide)
theorem kh_280_l2 : ct_ok wd_fl2 kh_280 := ct_lift2 (ct_lift kh_280_ok (by decide)) (by decide)
theorem kh_281_l2 : ct_ok wd_fl2 kh_281 := ct_lift2 (ct_lift kh_281_ok (by decide)) (by decide)
theorem kh_farFrom_lR : ct_okR wd_fl2 kh_farFrom R_farFrom := ct_lift2R kh_farFrom_okR (by decide)
