/-! ===== wReach: distances by open pipes ===== -/
def wE (f : Nat → Int32) (a : Int) (ok : Prop) : Prop := (∀ x : Nat, x < 12 → (f x).toInt = 0 → (x : Int) = a ∧ ok) ∧ (ok → (f a.toNat).toInt = 0)
theorem wE_upd {f : Nat → Int32} {t : Nat} {a b va vb x0 : Int} {ok : Prop} (h : wE f x0 ok) (ht : t ≤ 16) (ha : (f (lowI t).toNat).toInt = a) (hb : (f (highI t).toNat).toInt = b) (h0 : 0 ≤ a ∧ a ≤ 99 ∧ 0 ≤ b ∧ b ≤ 99)
    (h1 : va = a ∨ va = b + 1 ∧ b + 1 < a) (h2 : vb = b ∨ vb = a + 1 ∧ a + 1 < b) : wE (rw_u (rw_u f (lowI t).toNat va) (highI t).toNat vb) x0 ok := by
  obtain ⟨b1, b2, b3, b4, b5⟩ := lh_bd t ht
  have hne : (highI t).toNat ≠ (lowI t).toNat := by omega
  have rh : (rw_u (rw_u f (lowI t).toNat va) (highI t).toNat vb (highI t).toNat).toInt = vb := rw_u_at (by omega)
  have rl : (rw_u (rw_u f (lowI t).toNat va) (highI t).toNat vb (lowI t).toNat).toInt = va := by rw [rw_u_ne (Ne.symm hne)]; exact rw_u_at (by omega)
  have ro : ∀ i, i ≠ (lowI t).toNat → i ≠ (highI t).toNat → rw_u (rw_u f (lowI t).toNat va) (highI t).toNat vb i = f i := fun i g1 g2 => by rw [rw_u_ne g2, rw_u_ne g1]
  refine ⟨fun x hx h0' => ?_, fun hk => ?_⟩
  · by_cases e1 : x = (highI t).toNat
    · rw [e1, rh] at h0'
      rw [e1]
      exact h.1 _ (by omega) (by omega)
    · by_cases e2 : x = (lowI t).toNat
      · rw [e2, rl] at h0'
        rw [e2]
        exact h.1 _ (by omega) (by omega)
      · rw [ro x e2 e1] at h0'
        exact h.1 x hx h0'
  · have hz := h.2 hk
    by_cases e1 : x0.toNat = (highI t).toNat
    · rw [e1] at hz ⊢
      rw [rh]
      omega
    · by_cases e2 : x0.toNat = (lowI t).toNat
      · rw [e2] at hz ⊢
        rw [rl]
        omega
      · rw [ro _ e2 e1]
        exact hz
def wDs (S : fw_S) (a h : Int) : Prop := (∀ x : Nat, x < 12 → (S.1 840 x).toInt = 99 ∨ ((S.1 840 x).toInt = 0 ∧ (x : Int) = a ∧ hgt S a ≤ h) ∨
    (1 ≤ (S.1 840 x).toInt ∧ (S.1 840 x).toInt ≤ 11 ∧ ∃ t : Nat, t ≤ 16 ∧ wOpP S t h ∧ ((lowI t = x ∧ (S.1 840 (highI t).toNat).toInt + 1 = (S.1 840 x).toInt) ∨ (highI t = x ∧ (S.1 840 (lowI t).toNat).toInt + 1 = (S.1 840 x).toInt)))) ∧
  hFg (S.1 840) (fun t => wOpP S t h) 17 ∧ (hgt S a ≤ h → (S.1 840 a.toNat).toInt = 0)
def R_wReach : List av_X → fw_S → fw_O → fw_S → Prop := fun xs _ _ S' => wDs S' (nv xs 1) (nv xs 2)
theorem wDs_eq {S S' : fw_S} {a h : Int} (ha : 0 ≤ a ∧ a ≤ 11) (e0 : S'.1 840 = S.1 840) (e6 : S'.1 806 = S.1 806) (e9 : S'.1 839 = S.1 839) (w : wDs S a h) : wDs S' a h := by
  obtain ⟨w1, w2, w3⟩ := w
  have eh : hgt S' a = hgt S a := by unfold hgt; rw [e6]
  unfold wDs
  rw [e0, eh]
  refine ⟨fun x hx => ?_, fun t t1 t2 t3 => w2 t t1 t2 ((wOp_e t2 e6 e9).mp t3), w3⟩
  rcases w1 x hx with g | g | ⟨g1, g2, t, t1, t2, t3⟩
  · exact Or.inl g
  · exact Or.inr (Or.inl g)
  · exact Or.inr (Or.inr ⟨g1, g2, t, t1, (wOp_e t1 e6 e9).mpr t2, t3⟩)
/-- a way to where the distances begin -/
theorem wD_path {S : fw_S} {a h : Int} (w : wDs S a h) : ∀ (n : Nat) (x : Nat), x < 12 → (S.1 840 x).toInt = n → n ≤ 98 → n ≤ 11 ∧ wP S h n x a
  | 0, x, hx, hd, _ => by
    rcases w.1 x hx with g | ⟨g1, g2, g3⟩ | ⟨g1, g2, -⟩
    · omega
    · exact ⟨by omega, g2, by rw [g2]; exact g3⟩
    · omega
  | n + 1, x, hx, hd, h98 => by
    rcases w.1 x hx with g | ⟨g1, g2, g3⟩ | ⟨g1, g2, t, t1, t2, t3⟩
    · omega
    · omega
    · have b := lh_bd t t1
      refine ⟨by omega, ?_⟩
      rcases t3 with ⟨a1, a2⟩ | ⟨a1, a2⟩
      · have ih := wD_path w n (highI t).toNat (by omega) (by omega) (by omega)
        rw [Int.toNat_of_nonneg (by omega)] at ih
        exact ⟨t, highI t, t1, by omega, by omega, t2, Or.inl ⟨a1, rfl⟩, ih.2⟩
      · have ih := wD_path w n (lowI t).toNat (by omega) (by omega) (by omega)
        rw [Int.toNat_of_nonneg (by omega)] at ih
        exact ⟨t, lowI t, t1, by omega, by omega, t2, Or.inr ⟨rfl, a1⟩, ih.2⟩
/-- such a way shows where it ends that it isn't far -/
theorem wD_near {S : fw_S} {a h : Int} (w : wDs S a h) : ∀ (n : Nat) (x y : Int), 0 ≤ x ∧ x ≤ 11 → 0 ≤ y ∧ y ≤ 11 → wP S h n x y → (S.1 840 y.toNat).toInt ≤ (S.1 840 x.toNat).toInt + n
  | 0, x, y, _, _, p => by rw [p.1]; omega
  | n + 1, x, y, hx, hy, ⟨t, z, t1, z1, z2, o, j, p⟩ => by
    have ih := wD_near w n z y ⟨z1, z2⟩ hy p
    have b := lh_bd t t1
    obtain ⟨f1, f2⟩ := w.2.1 t (by omega) t1 o
    rcases j with ⟨j1, j2⟩ | ⟨j1, j2⟩
    · rw [j1, j2] at f1 f2
      omega
    · rw [j1, j2] at f1 f2
      omega
theorem wP_hgt {S : fw_S} {h : Int} : ∀ {n : Nat} {x y : Int}, wP S h n x y → hgt S x ≤ h
  | 0, x, y, p => p.2
  | n + 1, x, y, ⟨t, z, t1, z1, z2, o, j, p⟩ => by
    rcases j with ⟨j1, j2⟩ | ⟨j1, j2⟩
    · rw [← j1]; exact o.2.2.1
    · rw [← j2]; exact o.2.2.2
abbrev kh_wReach2_y : mt_T := (⟨"UtilityWorksModel", "wReach", "(II)V"⟩, prog_14_method_119_code, 7, none, 12, 1, 2, 34177, 34176, 11010, 21014)
def kh_wReach2 : ct_T := (471, [(2, 805, 805, 0), (0, 0, 11, 1), (0, (-2147483648), 2147483647, 1)], [], [], [(0, (0, 0, 0, 0), [(2, 805, 805, 0), (0, 0, 11, 1), (0, (-2147483648), 2147483647, 1)], [], ([], []))], [((840, 840), (0, 11, 1))], 5, 110, 0)
def kh_wReach2_a2 : an_T := (2, 0, ([((2, 805, 805, 0), none), ((0, 0, 11, 1), none), ((0, (-2147483648), 2147483647, 1), none), ((0, 0, 12, 1), none)], [(0, 0), (1, 1), (2, 2), (3, 3)], [], [], [], [], [], [], none), [])
def kh_wReach2_a58 : an_T := (58, 0, ([((2, 805, 805, 0), none), ((0, 0, 11, 1), none), ((0, (-2147483648), 2147483647, 1), none), ((0, 0, 1, 1), none)], [(0, 0), (1, 1), (2, 2), (3, 3)], [], [], [], [], [], [], none), [])
def kh_wReach2_a67 : an_T := (67, 0, ([((2, 805, 805, 0), none), ((0, 0, 11, 1), none), ((0, (-2147483648), 2147483647, 1), none), ((0, 0, 1, 1), none), ((0, 0, 17, 1), none)], [(0, 0), (1, 1), (2, 2), (3, 3), (4, 4)], [], [], [], [], [], [], none), [])
def kh_wReach2_b0_0 : sg_T := (2, 0, ([((2, 805, 805, 0), none), ((0, 0, 11, 1), none), ((0, (-2147483648), 2147483647, 1), none), ((0, 0, 0, 0), none)], [(3, 3), (0, 0), (1, 1), (2, 2)], [], [], [], [], [], [], some []))
def kh_wReach2_b2_0 : sg_T := (58, 0, ([((2, 805, 805, 0), none), ((0, 0, 11, 1), none), ((0, (-2147483648), 98, 1), none), ((0, 12, 12, 1), none), ((0, 12, 12, 0), none), ((2, 840, 840, 1), none), ((0, 0, 99, 1), none), ((0, 99, 99, 0), none), ((2, 840, 840, 1), none), ((0, 0, 0, 0), none)], [(3, 9), (0, 0), (1, 1), (2, 2)], [], [(5, 1, 7)], [(7, 0)], [(100000, 2, 6), (102300006, 1, 1), (200000, 4, 3)], [], [], some [(5, 1, 7)]))
def kh_wReach2_b2_1 : sg_T := (58, 0, ([((2, 805, 805, 0), none), ((0, 0, 11, 1), none), ((0, 0, 2147483647, 1), none), ((0, 12, 12, 1), none), ((0, 12, 12, 0), none), ((2, 840, 840, 1), none), ((0, 0, 99, 1), none), ((0, 0, 0, 0), none), ((2, 840, 840, 1), none), ((0, 1, 1, 0), none)], [(3, 9), (0, 0), (1, 1), (2, 2)], [], [(5, 1, 7)], [], [(200000, 6, 2), (102300006, 1, 1), (200000, 4, 3)], [], [], some [(5, 1, 7)]))
def kh_wReach2_b2_2 : sg_T := (2, 0, ([((2, 805, 805, 0), none), ((0, 0, 11, 1), none), ((0, (-2147483648), 2147483647, 1), none), ((0, 0, 11, 1), none), ((0, 12, 12, 0), none), ((2, 840, 840, 1), none), ((0, 99, 99, 0), none), ((0, 1, 12, 1), some (3, 1))], [(3, 7), (0, 0), (1, 1), (2, 2)], [], [(5, 3, 6)], [], [(100000, 3, 4)], [], [], some [(5, 3, 6)]))
def kh_wReach2_b58_0 : sg_T := (193, 0, ([((2, 805, 805, 0), none), ((0, 0, 11, 1), none), ((0, (-2147483648), 2147483647, 1), none), ((0, 0, 0, 1), none)], [(0, 0), (1, 1), (2, 2), (3, 3)], [], [], [], [], [], [], some []))
def kh_wReach2_b58_1 : sg_T := (67, 0, ([((2, 805, 805, 0), none), ((0, 0, 11, 1), none), ((0, (-2147483648), 2147483647, 1), none), ((0, 1, 1, 1), none), ((0, 0, 0, 0), none), ((0, 0, 0, 0), none)], [(4, 5), (3, 4), (0, 0), (1, 1), (2, 2)], [], [], [(3, 0)], [], [], [], some []))
def kh_wReach2_b67_0 : sg_T := (58, 0, ([((2, 805, 805, 0), none), ((0, 0, 11, 1), none), ((0, (-2147483648), 2147483647, 1), none), ((0, 0, 1, 1), none), ((0, 17, 17, 1), none), ((0, 17, 17, 0), none)], [(0, 0), (1, 1), (2, 2), (3, 3), (4, 4)], [], [], [], [(200000, 5, 4)], [], [], some []))
def kh_wReach2_b67_1 : sg_T := (67, 0, ([((2, 805, 805, 0), none), ((0, 0, 11, 1), none), ((0, (-2147483648), 2147483647, 1), none), ((0, 0, 1, 1), none), ((0, 0, 16, 1), none), ((0, 17, 17, 0), none), ((2, 840, 840, 1), none), ((0, 0, 10, 1), none), ((0, 0, 97, 1), none), ((2, 840, 840, 1), none), ((0, 1, 11, 1), none), ((0, 2, 99, 1), none), ((0, 1, 1, 0), none), ((0, 1, 98, 1), some (8, 1)), ((0, 0, 0, 1), none), ((0, 1, 17, 1), some (4, 1))], [(4, 15), (6, 11), (5, 8), (0, 0), (1, 1), (2, 2), (3, 3)], [], [(9, 10, 11), (6, 7, 8)], [], [(102100014, 4, 2), (100000, 13, 11), (500013, 8, 12), (800011, 9, 10), (1100010, 4, 4), (800008, 6, 7), (1000007, 4, 4), (100000, 4, 5)], [], [], some []))
def kh_wReach2_b67_2 : sg_T := (67, 0, ([((2, 805, 805, 0), none), ((0, 0, 11, 1), none), ((0, (-2147483648), 2147483647, 1), none), ((0, 0, 1, 1), none), ((0, 0, 16, 1), none), ((0, 17, 17, 0), none), ((2, 840, 840, 1), none), ((0, 0, 10, 1), none), ((0, 1, 97, 1), none), ((2, 840, 840, 1), none), ((0, 1, 11, 1), none), ((0, 2, 98, 1), none), ((0, 1, 1, 0), none), ((0, 1, 98, 1), some (8, 1)), ((0, 1, 1, 1), none), ((2, 840, 840, 1), none), ((0, 0, 10, 1), none), ((0, 1, 1, 0), none), ((0, 3, 100, 1), some (11, 1)), ((2, 840, 840, 1), none), ((0, 1, 11, 1), none), ((0, 1, 1, 0), none), ((0, 2, 98, 1), some (8, 1)), ((0, 1, 1, 0), none), ((0, 1, 17, 1), some (4, 1))], [(4, 24), (3, 23), (6, 11), (5, 8), (0, 0), (1, 1), (2, 2)], [], [(19, 20, 11)], [(14, 0)], [(200000, 11, 22), (500022, 8, 21), (1100020, 4, 4), (200000, 8, 18), (500018, 11, 17), (1000016, 4, 4), (102100014, 4, 2), (100000, 13, 11), (500013, 8, 12), (800011, 9, 10), (1100010, 4, 4), (800008, 6, 7), (1000007, 4, 4), (100000, 4, 5)], [], [], some [(19, 20, 11), (15, 16, 8)]))
def kh_wReach2_b67_3 : sg_T := (67, 0, ([((2, 805, 805, 0), none), ((0, 0, 11, 1), none), ((0, (-2147483648), 2147483647, 1), none), ((0, 0, 1, 1), none), ((0, 0, 16, 1), none), ((0, 17, 17, 0), none), ((2, 840, 840, 1), none), ((0, 0, 10, 1), none), ((0, 0, 97, 1), none), ((2, 840, 840, 1), none), ((0, 1, 11, 1), none), ((0, 2, 99, 1), none), ((0, 1, 1, 0), none), ((0, 1, 98, 1), some (8, 1)), ((0, 1, 1, 1), none), ((2, 840, 840, 1), none), ((0, 0, 10, 1), none), ((0, 1, 1, 0), none), ((0, 3, 100, 1), some (11, 1)), ((2, 840, 840, 1), none), ((0, 1, 11, 1), none), ((0, 1, 1, 0), none), ((0, 1, 98, 1), some (8, 1)), ((0, 1, 1, 0), none), ((0, 1, 98, 1), some (8, 1)), ((0, 1, 1, 0), none), ((0, 1, 17, 1), some (4, 1))], [(4, 26), (3, 25), (6, 11), (5, 8), (0, 0), (1, 1), (2, 2)], [], [(19, 20, 24)], [(14, 0)], [(500024, 8, 23), (100000, 22, 11), (500022, 8, 21), (1100020, 4, 4), (200000, 8, 18), (500018, 11, 17), (1000016, 4, 4), (102100014, 4, 2), (100000, 13, 11), (500013, 8, 12), (800011, 9, 10), (1100010, 4, 4), (800008, 6, 7), (1000007, 4, 4), (100000, 4, 5)], [], [], some [(19, 20, 24), (15, 16, 8)]))
def kh_wReach2_b67_4 : sg_T := (67, 0, ([((2, 805, 805, 0), none), ((0, 0, 11, 1), none), ((0, (-2147483648), 2147483647, 1), none), ((0, 0, 1, 1), none), ((0, 0, 16, 1), none), ((0, 17, 17, 0), none), ((2, 840, 840, 1), none), ((0, 0, 10, 1), none), ((0, 4, 97, 1), none), ((2, 840, 840, 1), none), ((0, 1, 11, 1), none), ((0, 2, 95, 1), none), ((0, 1, 1, 0), none), ((0, 1, 98, 1), some (8, 1)), ((0, 1, 1, 1), none), ((2, 840, 840, 1), none), ((0, 0, 10, 1), none), ((0, 1, 1, 0), none), ((0, 3, 96, 1), some (11, 1)), ((0, 1, 1, 0), none), ((0, 3, 96, 1), some (11, 1)), ((2, 840, 840, 1), none), ((0, 1, 11, 1), none), ((0, 1, 1, 0), none), ((0, 5, 98, 1), some (8, 1)), ((0, 1, 1, 0), none), ((0, 1, 17, 1), some (4, 1))], [(4, 26), (3, 25), (6, 11), (5, 8), (0, 0), (1, 1), (2, 2)], [], [(21, 22, 11)], [(14, 0)], [(200000, 11, 24), (500024, 8, 23), (1100022, 4, 4), (500020, 11, 19), (100000, 18, 8), (500018, 11, 17), (1000016, 4, 4), (102100014, 4, 2), (100000, 13, 11), (500013, 8, 12), (800011, 9, 10), (1100010, 4, 4), (800008, 6, 7), (1000007, 4, 4), (100000, 4, 5)], [], [], some [(21, 22, 11), (15, 16, 20)]))
def kh_wReach2_b67_5 : sg_T := (67, 0, ([((2, 805, 805, 0), none), ((0, 0, 11, 1), none), ((0, (-2147483648), 2147483647, 1), none), ((0, 0, 1, 1), none), ((0, 0, 16, 1), none), ((0, 17, 17, 0), none), ((2, 840, 840, 1), none), ((0, 0, 10, 1), none), ((0, 4, 93, 1), none), ((2, 840, 840, 1), none), ((0, 1, 11, 1), none), ((0, 6, 95, 1), none), ((0, 1, 1, 0), none), ((0, 1, 98, 1), some (8, 1)), ((0, 1, 1, 1), none), ((2, 840, 840, 1), none), ((0, 0, 10, 1), none), ((0, 1, 1, 0), none), ((0, 3, 96, 1), some (11, 1)), ((0, 1, 1, 0), none), ((0, 3, 96, 1), some (11, 1)), ((2, 840, 840, 1), none), ((0, 1, 11, 1), none), ((0, 1, 1, 0), none), ((0, 5, 94, 1), some (8, 1)), ((0, 1, 1, 0), none), ((0, 5, 94, 1), some (8, 1)), ((0, 1, 1, 0), none), ((0, 1, 17, 1), some (4, 1))], [(4, 28), (3, 27), (6, 11), (5, 8), (0, 0), (1, 1), (2, 2)], [], [(21, 22, 26)], [(14, 0)], [(500026, 8, 25), (100000, 24, 11), (500024, 8, 23), (1100022, 4, 4), (500020, 11, 19), (100000, 18, 8), (500018, 11, 17), (1000016, 4, 4), (102100014, 4, 2), (100000, 13, 11), (500013, 8, 12), (800011, 9, 10), (1100010, 4, 4), (800008, 6, 7), (1000007, 4, 4), (100000, 4, 5)], [], [], some [(21, 22, 26), (15, 16, 20)]))
def kh_wReach2_b67_6 : sg_T := (67, 0, ([((2, 805, 805, 0), none), ((0, 0, 11, 1), none), ((0, (-2147483648), 2147483647, 1), none), ((0, 0, 1, 1), none), ((0, 0, 16, 1), none), ((0, 17, 17, 0), none), ((2, 840, 840, 1), none), ((0, 0, 10, 1), none), ((0, 0, 99, 1), none), ((2, 840, 840, 1), none), ((0, 1, 11, 1), none), ((0, 0, 99, 1), none), ((0, 1, 1, 0), none), ((0, 1, 100, 1), some (8, 1)), ((0, 1, 1, 0), none), ((0, 1, 100, 1), some (11, 1)), ((0, 1, 17, 1), some (4, 1))], [(4, 16), (6, 11), (5, 8), (0, 0), (1, 1), (2, 2), (3, 3)], [], [(9, 10, 11), (6, 7, 8)], [], [(200000, 8, 15), (500015, 11, 14), (200000, 11, 13), (500013, 8, 12), (800011, 9, 10), (1100010, 4, 4), (800008, 6, 7), (1000007, 4, 4), (100000, 4, 5)], [], [], some []))
def kh_wReach2_b67_7 : sg_T := (67, 0, ([((2, 805, 805, 0), none), ((0, 0, 11, 1), none), ((0, (-2147483648), 2147483647, 1), none), ((0, 0, 1, 1), none), ((0, 0, 16, 1), none), ((0, 17, 17, 0), none), ((2, 840, 840, 1), none), ((0, 0, 10, 1), none), ((0, 2, 99, 1), none), ((2, 840, 840, 1), none), ((0, 1, 11, 1), none), ((0, 0, 97, 1), none), ((0, 1, 1, 0), none), ((0, 1, 100, 1), some (8, 1)), ((0, 1, 1, 0), none), ((0, 1, 98, 1), some (11, 1)), ((0, 0, 0, 1), none), ((0, 1, 17, 1), some (4, 1))], [(4, 17), (6, 11), (5, 8), (0, 0), (1, 1), (2, 2), (3, 3)], [], [(9, 10, 11), (6, 7, 8)], [], [(102100016, 4, 2), (100000, 15, 8), (500015, 11, 14), (200000, 11, 13), (500013, 8, 12), (800011, 9, 10), (1100010, 4, 4), (800008, 6, 7), (1000007, 4, 4), (100000, 4, 5)], [], [], some []))
def kh_wReach2_b67_8 : sg_T := (67, 0, ([((2, 805, 805, 0), none), ((0, 0, 11, 1), none), ((0, (-2147483648), 2147483647, 1), none), ((0, 0, 1, 1), none), ((0, 0, 16, 1), none), ((0, 17, 17, 0), none), ((2, 840, 840, 1), none), ((0, 0, 10, 1), none), ((0, 2, 98, 1), none), ((2, 840, 840, 1), none), ((0, 1, 11, 1), none), ((0, 1, 97, 1), none), ((0, 1, 1, 0), none), ((0, 1, 100, 1), some (8, 1)), ((0, 1, 1, 0), none), ((0, 1, 98, 1), some (11, 1)), ((0, 1, 1, 1), none), ((2, 840, 840, 1), none), ((0, 0, 10, 1), none), ((0, 1, 1, 0), none), ((0, 2, 98, 1), some (11, 1)), ((2, 840, 840, 1), none), ((0, 1, 11, 1), none), ((0, 1, 1, 0), none), ((0, 3, 99, 1), some (8, 1)), ((0, 1, 1, 0), none), ((0, 1, 17, 1), some (4, 1))], [(4, 26), (3, 25), (6, 11), (5, 8), (0, 0), (1, 1), (2, 2)], [], [(21, 22, 11)], [(16, 0)], [(200000, 11, 24), (500024, 8, 23), (1100022, 4, 4), (200000, 8, 20), (500020, 11, 19), (1000018, 4, 4), (102100016, 4, 2), (100000, 15, 8), (500015, 11, 14), (200000, 11, 13), (500013, 8, 12), (800011, 9, 10), (1100010, 4, 4), (800008, 6, 7), (1000007, 4, 4), (100000, 4, 5)], [], [], some [(21, 22, 11), (17, 18, 8)]))
def kh_wReach2_b67_9 : sg_T := (67, 0, ([((2, 805, 805, 0), none), ((0, 0, 11, 1), none), ((0, (-2147483648), 2147483647, 1), none), ((0, 0, 1, 1), none), ((0, 0, 16, 1), none), ((0, 17, 17, 0), none), ((2, 840, 840, 1), none), ((0, 0, 10, 1), none), ((0, 2, 95, 1), none), ((2, 840, 840, 1), none), ((0, 1, 11, 1), none), ((0, 4, 97, 1), none), ((0, 1, 1, 0), none), ((0, 1, 100, 1), some (8, 1)), ((0, 1, 1, 0), none), ((0, 1, 98, 1), some (11, 1)), ((0, 1, 1, 1), none), ((2, 840, 840, 1), none), ((0, 0, 10, 1), none), ((0, 1, 1, 0), none), ((0, 2, 98, 1), some (11, 1)), ((2, 840, 840, 1), none), ((0, 1, 11, 1), none), ((0, 1, 1, 0), none), ((0, 3, 96, 1), some (8, 1)), ((0, 1, 1, 0), none), ((0, 3, 96, 1), some (8, 1)), ((0, 1, 1, 0), none), ((0, 1, 17, 1), some (4, 1))], [(4, 28), (3, 27), (6, 11), (5, 8), (0, 0), (1, 1), (2, 2)], [], [(21, 22, 26)], [(16, 0)], [(500026, 8, 25), (100000, 24, 11), (500024, 8, 23), (1100022, 4, 4), (200000, 8, 20), (500020, 11, 19), (1000018, 4, 4), (102100016, 4, 2), (100000, 15, 8), (500015, 11, 14), (200000, 11, 13), (500013, 8, 12), (800011, 9, 10), (1100010, 4, 4), (800008, 6, 7), (1000007, 4, 4), (100000, 4, 5)], [], [], some [(21, 22, 26), (17, 18, 8)]))
def kh_wReach2_b67_10 : sg_T := (67, 0, ([((2, 805, 805, 0), none), ((0, 0, 11, 1), none), ((0, (-2147483648), 2147483647, 1), none), ((0, 0, 1, 1), none), ((0, 0, 16, 1), none), ((0, 17, 17, 0), none), ((2, 840, 840, 1), none), ((0, 0, 10, 1), none), ((0, 2, 99, 1), none), ((2, 840, 840, 1), none), ((0, 1, 11, 1), none), ((0, 0, 97, 1), none), ((0, 1, 1, 0), none), ((0, 1, 100, 1), some (8, 1)), ((0, 1, 1, 0), none), ((0, 1, 98, 1), some (11, 1)), ((0, 1, 1, 1), none), ((2, 840, 840, 1), none), ((0, 0, 10, 1), none), ((0, 1, 1, 0), none), ((0, 1, 98, 1), some (11, 1)), ((0, 1, 1, 0), none), ((0, 1, 98, 1), some (11, 1)), ((2, 840, 840, 1), none), ((0, 1, 11, 1), none), ((0, 1, 1, 0), none), ((0, 3, 100, 1), some (8, 1)), ((0, 1, 1, 0), none), ((0, 1, 17, 1), some (4, 1))], [(4, 28), (3, 27), (6, 11), (5, 8), (0, 0), (1, 1), (2, 2)], [], [(23, 24, 11)], [(16, 0)], [(200000, 11, 26), (500026, 8, 25), (1100024, 4, 4), (500022, 11, 21), (100000, 20, 8), (500020, 11, 19), (1000018, 4, 4), (102100016, 4, 2), (100000, 15, 8), (500015, 11, 14), (200000, 11, 13), (500013, 8, 12), (800011, 9, 10), (1100010, 4, 4), (800008, 6, 7), (1000007, 4, 4), (100000, 4, 5)], [], [], some [(23, 24, 11), (17, 18, 22)]))
def kh_wReach2_b67_11 : sg_T := (67, 0, ([((2, 805, 805, 0), none), ((0, 0, 11, 1), none), ((0, (-2147483648), 2147483647, 1), none), ((0, 0, 1, 1), none), ((0, 0, 16, 1), none), ((0, 17, 17, 0), none), ((2, 840, 840, 1), none), ((0, 0, 10, 1), none), ((0, 2, 95, 1), none), ((2, 840, 840, 1), none), ((0, 1, 11, 1), none), ((0, 4, 97, 1), none), ((0, 1, 1, 0), none), ((0, 1, 100, 1), some (8, 1)), ((0, 1, 1, 0), none), ((0, 1, 98, 1), some (11, 1)), ((0, 1, 1, 1), none), ((2, 840, 840, 1), none), ((0, 0, 10, 1), none), ((0, 1, 1, 0), none), ((0, 1, 98, 1), some (11, 1)), ((0, 1, 1, 0), none), ((0, 1, 98, 1), some (11, 1)), ((2, 840, 840, 1), none), ((0, 1, 11, 1), none), ((0, 1, 1, 0), none), ((0, 3, 96, 1), some (8, 1)), ((0, 1, 1, 0), none), ((0, 3, 96, 1), some (8, 1)), ((0, 1, 1, 0), none), ((0, 1, 17, 1), some (4, 1))], [(4, 30), (3, 29), (6, 11), (5, 8), (0, 0), (1, 1), (2, 2)], [], [(23, 24, 28)], [(16, 0)], [(500028, 8, 27), (100000, 26, 11), (500026, 8, 25), (1100024, 4, 4), (500022, 11, 21), (100000, 20, 8), (500020, 11, 19), (1000018, 4, 4), (102100016, 4, 2), (100000, 15, 8), (500015, 11, 14), (200000, 11, 13), (500013, 8, 12), (800011, 9, 10), (1100010, 4, 4), (800008, 6, 7), (1000007, 4, 4), (100000, 4, 5)], [], [], some [(23, 24, 28), (17, 18, 22)]))
def kh_wReach2_I (l : Launch) (D : va_G) (tc : Nat → ClassId) (ad : Nat → Nat) (kd : Nat → Nat × Nat) (N : Nat) (sm : Nat → Nat) (xs : List av_X) (S : fw_S) (p : Program) (e : Env) (s : State) (m : MethodId) (args : Array Value) (below : List Frame) (meth : Method) (c : Code) (sz : Nat) (k : Nat) : Prop := (∀ (α : List av_X) (lv : List (Nat × Value)) (S1 : fw_S), as_in ad sm wd_fl2 xs S kh_wReach2.2.2.2.2.2.1 α kh_wReach2_a2.2.2.1 lv [] S1 → (∀ j : Nat, (j : Int) < nv α 3 → j < 12 → (S1.1 840 j).toInt = 99) → 10000000 + (12 - nv α 3).toNat < k → hd_WR R_wReach wd_fl2 kh_wReach2 kh_wReach2_y l D tc ad kd N sm xs S p e s m args below meth c sz 2 lv [] S1 0) ∧ (∀ (α : List av_X) (lv : List (Nat × Value)) (S1 : fw_S), as_in ad sm wd_fl2 xs S kh_wReach2.2.2.2.2.2.1 α kh_wReach2_a58.2.2.1 lv [] S1 → (hWg (S1.1 840) (fun t => wOpP S t (nv xs 2)) ∧ wE (S1.1 840) (nv xs 1) (hgt S (nv xs 1) ≤ nv xs 2) ∧ (nv α 3 = 0 → hFg (S1.1 840) (fun t => wOpP S t (nv xs 2)) 17)) → 100 * (sm_S (S1.1 840) 12).toNat + 60 * (nv α 3).toNat < k → hd_WR R_wReach wd_fl2 kh_wReach2 kh_wReach2_y l D tc ad kd N sm xs S p e s m args below meth c sz 58 lv [] S1 0) ∧ (∀ (α : List av_X) (lv : List (Nat × Value)) (S1 : fw_S), as_in ad sm wd_fl2 xs S kh_wReach2.2.2.2.2.2.1 α kh_wReach2_a67.2.2.1 lv [] S1 → (hWg (S1.1 840) (fun t => wOpP S t (nv xs 2)) ∧ wE (S1.1 840) (nv xs 1) (hgt S (nv xs 1) ≤ nv xs 2) ∧ (nv α 3 = 0 → hFg (S1.1 840) (fun t => wOpP S t (nv xs 2)) (nv α 4))) → 100 * (sm_S (S1.1 840) 12).toNat + (17 - nv α 4).toNat + 60 * (nv α 3).toNat + 1 < k → hd_WR R_wReach wd_fl2 kh_wReach2 kh_wReach2_y l D tc ad kd N sm xs S p e s m args below meth c sz 67 lv [] S1 0) ∧ True
set_option maxHeartbeats 16000000 in
set_option maxRecDepth 8000 in
theorem kh_wReach2_h2 {l : Launch} {D : va_G} {tc : Nat → ClassId} {ad : Nat → Nat} {kd : Nat → Nat × Nat} {N : Nat} {sm : Nat → Nat} {xs : List av_X} {S : fw_S} {p : Program} {e : Env} {s : State} {m : MethodId} {args : Array Value} {below : List Frame} {meth : Method} {c : Code} {sz : Nat} {lvE : List (Nat × Value)} (G : hd_C wd_ff2 wd_fl2 kh_wReach2 [kh_heightOf, kh_low, kh_high, kh_wOpen] kh_wReach2_y l D tc ad kd N sm xs p s m args meth c sz) (H0 : as_in ad sm wd_fl2 xs S kh_wReach2.2.2.2.2.2.1 xs (hd_0 kh_wReach2) lvE [] S) {k : Nat} (ih : kh_wReach2_I l D tc ad kd N sm xs S p e s m args below meth c sz k) : (∀ (α : List av_X) (lv : List (Nat × Value)) (S1 : fw_S), as_in ad sm wd_fl2 xs S kh_wReach2.2.2.2.2.2.1 α kh_wReach2_a2.2.2.1 lv [] S1 → (∀ j : Nat, (j : Int) < nv α 3 → j < 12 → (S1.1 840 j).toInt = 99) → 10000000 + (12 - nv α 3).toNat < k + 1 → hd_WR R_wReach wd_fl2 kh_wReach2 kh_wReach2_y l D tc ad kd N sm xs S p e s m args below meth c sz 2 lv [] S1 0) := by
  have hx : xs.length = 3 := by rw [H0.2.1.1]; rfl
  intro α lv S1 H hp hk
  obtain ⟨α1, hle, Hr⟩ := as_recM (pl := []) [((840, 840), (0, 11, 1))] (by decide +kernel) H
  have hf := H.2.2.2.2.2.2.2.2.2.2.1
  have hl1 : α1.length = 4 := by rw [Hr.2.1.1]; rfl
  have hl0 : α.length = 4 := by rw [H.2.1.1]; rfl
  have hxa : al_le xs α1 := H.1.trans hle
  obtain ⟨g1, -, g3, g4, -⟩ := as_fx Hr
  have g0 : (805 ≤ nv α1 0 ∧ nv α1 0 ≤ 805) ∧ (0 ≤ nv α1 1 ∧ nv α1 1 ≤ 11) ∧ ((-2147483648) ≤ nv α1 2 ∧ nv α1 2 ≤ 2147483647) ∧ (0 ≤ nv α1 3 ∧ nv α1 3 ≤ 12) ∧ True := by
    refine ⟨by have h := (en_nv (i := 0) Hr.2.1 rfl).2; exact h, by have h := (en_nv (i := 1) Hr.2.1 rfl).2; exact h, by have h := (en_nv (i := 2) Hr.2.1 rfl).2; exact h, by have h := (en_nv (i := 3) Hr.2.1 rfl).2; exact h, trivial⟩
  have r0 : nv α1 0 = nv α 0 := nv_le hle (by omega)
  have r1 : nv α1 1 = nv α 1 := nv_le hle (by omega)
  have r2 : nv α1 2 = nv α 2 := nv_le hle (by omega)
  have r3 : nv α1 3 = nv α 3 := nv_le hle (by omega)
  refine hd_segMR G (na := 4) (fuel := 600) (first := true) (Bs := [kh_wReach2_b2_0, kh_wReach2_b2_1, kh_wReach2_b2_2]) (by decide +kernel) hl1 Hr ?_
  intro q hq β lv' st' S' H1
  simp only [List.mem_cons, List.not_mem_nil, or_false] at hq
  rcases hq with rfl | rfl | rfl
  · have hst := st_nil H1 rfl
    subst hst
    obtain ⟨f1, f2, f3, f4, f5⟩ := as_fx H1
    simp only [kh_wReach2_b2_0, fx_env, fx_c, fx_ne, fx_hf, wl_S, Nat.zero_add, Nat.reduceAdd, Nat.reduceDiv, Nat.reduceMod, List.getElem?_cons_zero, List.getElem?_cons_succ, if_true, and_true, true_and] at f1 f2 f3 f4 f5
    have fe0 : nv β 0 = 805 := by omega
    have fe3 : nv β 3 = 12 := by omega
    have fe4 : nv β 4 = 12 := by omega
    have fe5 : nv β 5 = 840 := by omega
    have fe7 : nv β 7 = 99 := by omega
    have fe8 : nv β 8 = 840 := by omega
    have fe9 : nv β 9 = 0 := by omega
    try simp only [fe0, fe3, fe4, fe5, fe7, fe8, fe9, Int.reduceToNat] at f2 f3 f4 f5
    have s0 : nv β 0 = nv α1 0 := nv_le H1.1 (by omega)
    have s1 : nv β 1 = nv α1 1 := nv_le H1.1 (by omega)
    have s2 : nv β 2 = nv α1 2 := nv_le H1.1 (by omega)
    have s3 : nv β 3 = nv α1 3 := nv_le H1.1 (by omega)
    obtain ⟨c0, c1, c2⟩ := f2
    obtain ⟨α', Ha, hm⟩ := hd_gpM (q := kh_wReach2_a58) (n := 0) (by decide +kernel) hx H1 (by decide +kernel) hxa hf
    have hfr := H1.2.2.2.2.2.2.2.2.2.2.1
    have m0 : nv α' 0 = nv β 0 := hm 0 0 rfl
    have m1 : nv α' 1 = nv β 1 := hm 1 1 rfl
    have m2 : nv α' 2 = nv β 2 := hm 2 2 rfl
    have m3 : nv α' 3 = nv β 9 := hm 3 9 rfl
    subst S'
    have hb2 := sm_bd (n := 12) (fun j hj => rg_bd (q_rg_in (q := ((840, 840), (0, 11, 1), (0, 0, 99, 1))) (by decide +kernel) Ha) (j := j) (by omega))
    have z1 : nv α 1 = nv xs 1 := nv_le H.1 (by omega)
    have z2 : nv α 2 = nv xs 2 := nv_le H.1 (by omega)
    have e6 : S1.1 806 = S.1 806 := fr_row hf 806 (by decide +kernel)
    have e9 : S1.1 839 = S.1 839 := fr_row hf 839 (by decide +kernel)
    have d1 := c1
    simp only [wd_fl2, if_neg (show ¬ (wd_base1 1023 = true) by decide)] at d1
    have hok : hgt S1 (nv β 1) = hgt S (nv xs 1) := by
      unfold hgt
      rw [e6, show nv β 1 = nv xs 1 by omega]
    rw [hok] at d1
    have all : ∀ y : Nat, y < 12 → ((fw_i S1 840 (nv β 1).toNat (Int32.ofInt 99)).1 840 y).toInt = 99 := by
      intro y hy
      rw [fw_i_row]
      by_cases e : y = (nv β 1).toNat
      · rw [if_pos e]; decide
      · rw [if_neg e]; exact hp y (by omega) hy
    refine ih.2.1 _ _ _ Ha ?_ ?_
    · refine ⟨fun y hy => Or.inl (all y hy), ⟨fun y hy h0 => ?_, fun hk' => ?_⟩, fun hg t h1 h2 h3 => ?_⟩
      · rw [all y hy] at h0; omega
      · exfalso; omega
      · have b := lh_bd t h2
        rw [all _ (by omega), all _ (by omega)]
        omega
    · rw [m3]; omega
  · have hst := st_nil H1 rfl
    subst hst
    obtain ⟨f1, f2, f3, f4, f5⟩ := as_fx H1
    simp only [kh_wReach2_b2_1, fx_env, fx_c, fx_ne, fx_hf, wl_S, Nat.zero_add, Nat.reduceAdd, Nat.reduceDiv, Nat.reduceMod, List.getElem?_cons_zero, List.getElem?_cons_succ, if_true, and_true, true_and] at f1 f2 f3 f4 f5
    have fe0 : nv β 0 = 805 := by omega
    have fe3 : nv β 3 = 12 := by omega
    have fe4 : nv β 4 = 12 := by omega
    have fe5 : nv β 5 = 840 := by omega
    have fe7 : nv β 7 = 0 := by omega
    have fe8 : nv β 8 = 840 := by omega
    have fe9 : nv β 9 = 1 := by omega
    try simp only [fe0, fe3, fe4, fe5, fe7, fe8, fe9, Int.reduceToNat] at f2 f3 f4 f5
    have s0 : nv β 0 = nv α1 0 := nv_le H1.1 (by omega)
    have s1 : nv β 1 = nv α1 1 := nv_le H1.1 (by omega)
    have s2 : nv β 2 = nv α1 2 := nv_le H1.1 (by omega)
    have s3 : nv β 3 = nv α1 3 := nv_le H1.1 (by omega)
    obtain ⟨c0, c1, c2⟩ := f2
    obtain ⟨α', Ha, hm⟩ := hd_gpM (q := kh_wReach2_a58) (n := 0) (by decide +kernel) hx H1 (by decide +kernel) hxa hf
    have hfr := H1.2.2.2.2.2.2.2.2.2.2.1
    have m0 : nv α' 0 = nv β 0 := hm 0 0 rfl
    have m1 : nv α' 1 = nv β 1 := hm 1 1 rfl
    have m2 : nv α' 2 = nv β 2 := hm 2 2 rfl
    have m3 : nv α' 3 = nv β 9 := hm 3 9 rfl
    subst S'
    have hb2 := sm_bd (n := 12) (fun j hj => rg_bd (q_rg_in (q := ((840, 840), (0, 11, 1), (0, 0, 99, 1))) (by decide +kernel) Ha) (j := j) (by omega))
    have z1 : nv α 1 = nv xs 1 := nv_le H.1 (by omega)
    have z2 : nv α 2 = nv xs 2 := nv_le H.1 (by omega)
    have e6 : S1.1 806 = S.1 806 := fr_row hf 806 (by decide +kernel)
    have e9 : S1.1 839 = S.1 839 := fr_row hf 839 (by decide +kernel)
    have d1 := c1
    simp only [wd_fl2, if_neg (show ¬ (wd_base1 1023 = true) by decide)] at d1
    have hok : hgt S1 (nv β 1) = hgt S (nv xs 1) := by
      unfold hgt
      rw [e6, show nv β 1 = nv xs 1 by omega]
    rw [hok] at d1
    have ro : ∀ y : Nat, y < 12 → y ≠ (nv β 1).toNat → ((fw_i S1 840 (nv β 1).toNat (Int32.ofInt 0)).1 840 y).toInt = 99 := by
      intro y hy e
      rw [fw_i_row, if_neg e]
      exact hp y (by omega) hy
    have rz : ((fw_i S1 840 (nv β 1).toNat (Int32.ofInt 0)).1 840 (nv β 1).toNat).toInt = 0 := by rw [fw_i_row, if_pos rfl]; decide
    refine ih.2.1 _ _ _ Ha ?_ ?_
    · refine ⟨fun y hy => ?_, ⟨fun y hy h0 => ?_, fun _ => ?_⟩, fun hg => by omega⟩
      · by_cases e : y = (nv β 1).toNat
        · rw [e]; exact Or.inr (Or.inl rz)
        · exact Or.inl (ro y hy e)
      · by_cases e : y = (nv β 1).toNat
        · exact ⟨by omega, by omega⟩
        · rw [ro y hy e] at h0; omega
      · rw [show nv xs 1 = nv β 1 by omega]; exact rz
    · rw [m3]; omega
  · have hst := st_nil H1 rfl
    subst hst
    obtain ⟨f1, f2, f3, f4, f5⟩ := as_fx H1
    simp only [kh_wReach2_b2_2, fx_env, fx_c, fx_ne, fx_hf, wl_S, Nat.zero_add, Nat.reduceAdd, Nat.reduceDiv, Nat.reduceMod, List.getElem?_cons_zero, List.getElem?_cons_succ, if_true, and_true, true_and] at f1 f2 f3 f4 f5
    have fe0 : nv β 0 = 805 := by omega
    have fe4 : nv β 4 = 12 := by omega
    have fe5 : nv β 5 = 840 := by omega
    have fe6 : nv β 6 = 99 := by omega
    try simp only [fe0, fe4, fe5, fe6, Int.reduceToNat] at f2 f3 f4 f5
    have s0 : nv β 0 = nv α1 0 := nv_le H1.1 (by omega)
    have s1 : nv β 1 = nv α1 1 := nv_le H1.1 (by omega)
    have s2 : nv β 2 = nv α1 2 := nv_le H1.1 (by omega)
    have s3 : nv β 3 = nv α1 3 := nv_le H1.1 (by omega)
    have c0 := f2
    obtain ⟨α', Ha, hm⟩ := hd_gpM (q := kh_wReach2_a2) (n := 0) (by decide +kernel) hx H1 (by decide +kernel) hxa hf
    have hfr := H1.2.2.2.2.2.2.2.2.2.2.1
    have m0 : nv α' 0 = nv β 0 := hm 0 0 rfl
    have m1 : nv α' 1 = nv β 1 := hm 1 1 rfl
    have m2 : nv α' 2 = nv β 2 := hm 2 2 rfl
    have m3 : nv α' 3 = nv β 7 := hm 3 7 rfl
    subst S'
    refine ih.1 _ _ _ Ha ?_ ?_
    · intro j hj hj2
      rw [m3] at hj
      rw [fw_i_row]
      by_cases e : j = (nv β 3).toNat
      · rw [if_pos e]; decide
      · rw [if_neg e]; exact hp j (by omega) hj2
    · omega
set_option maxHeartbeats 16000000 in
set_option maxRecDepth 8000 in
theorem kh_wReach2_h58 {l : Launch} {D : va_G} {tc : Nat → ClassId} {ad : Nat → Nat} {kd : Nat → Nat × Nat} {N : Nat} {sm : Nat → Nat} {xs : List av_X} {S : fw_S} {p : Program} {e : Env} {s : State} {m : MethodId} {args : Array Value} {below : List Frame} {meth : Method} {c : Code} {sz : Nat} {lvE : List (Nat × Value)} (G : hd_C wd_ff2 wd_fl2 kh_wReach2 [kh_heightOf, kh_low, kh_high, kh_wOpen] kh_wReach2_y l D tc ad kd N sm xs p s m args meth c sz) (H0 : as_in ad sm wd_fl2 xs S kh_wReach2.2.2.2.2.2.1 xs (hd_0 kh_wReach2) lvE [] S) {k : Nat} (ih : kh_wReach2_I l D tc ad kd N sm xs S p e s m args below meth c sz k) : (∀ (α : List av_X) (lv : List (Nat × Value)) (S1 : fw_S), as_in ad sm wd_fl2 xs S kh_wReach2.2.2.2.2.2.1 α kh_wReach2_a58.2.2.1 lv [] S1 → (hWg (S1.1 840) (fun t => wOpP S t (nv xs 2)) ∧ wE (S1.1 840) (nv xs 1) (hgt S (nv xs 1) ≤ nv xs 2) ∧ (nv α 3 = 0 → hFg (S1.1 840) (fun t => wOpP S t (nv xs 2)) 17)) → 100 * (sm_S (S1.1 840) 12).toNat + 60 * (nv α 3).toNat < k + 1 → hd_WR R_wReach wd_fl2 kh_wReach2 kh_wReach2_y l D tc ad kd N sm xs S p e s m args below meth c sz 58 lv [] S1 0) := by
  have hx : xs.length = 3 := by rw [H0.2.1.1]; rfl
  intro α lv S1 H hp hk
  obtain ⟨α1, hle, Hr⟩ := as_recM (pl := []) [] (by decide +kernel) H
  have hf := H.2.2.2.2.2.2.2.2.2.2.1
  have hl1 : α1.length = 4 := by rw [Hr.2.1.1]; rfl
  have hl0 : α.length = 4 := by rw [H.2.1.1]; rfl
  have hxa : al_le xs α1 := H.1.trans hle
  obtain ⟨g1, -, g3, g4, -⟩ := as_fx Hr
  have g0 : (805 ≤ nv α1 0 ∧ nv α1 0 ≤ 805) ∧ (0 ≤ nv α1 1 ∧ nv α1 1 ≤ 11) ∧ ((-2147483648) ≤ nv α1 2 ∧ nv α1 2 ≤ 2147483647) ∧ (0 ≤ nv α1 3 ∧ nv α1 3 ≤ 1) ∧ True := by
    refine ⟨by have h := (en_nv (i := 0) Hr.2.1 rfl).2; exact h, by have h := (en_nv (i := 1) Hr.2.1 rfl).2; exact h, by have h := (en_nv (i := 2) Hr.2.1 rfl).2; exact h, by have h := (en_nv (i := 3) Hr.2.1 rfl).2; exact h, trivial⟩
  have r0 : nv α1 0 = nv α 0 := nv_le hle (by omega)
  have r1 : nv α1 1 = nv α 1 := nv_le hle (by omega)
  have r2 : nv α1 2 = nv α 2 := nv_le hle (by omega)
  have r3 : nv α1 3 = nv α 3 := nv_le hle (by omega)
  refine hd_segMR G (na := 4) (fuel := 600) (first := true) (Bs := [kh_wReach2_b58_0, kh_wReach2_b58_1]) (by decide +kernel) hl1 Hr ?_
  intro q hq β lv' st' S' H1
  simp only [List.mem_cons, List.not_mem_nil, or_false] at hq
  rcases hq with rfl | rfl
  · obtain ⟨f1, f2, f3, f4, f5⟩ := as_fx H1
    simp only [kh_wReach2_b58_0, fx_env, fx_c, fx_ne, fx_hf, wl_S, Nat.zero_add, Nat.reduceAdd, Nat.reduceDiv, Nat.reduceMod, List.getElem?_cons_zero, List.getElem?_cons_succ, if_true, and_true, true_and] at f1 f2 f3 f4 f5
    have fe0 : nv β 0 = 805 := by omega
    have fe3 : nv β 3 = 0 := by omega
    try simp only [fe0, fe3, Int.reduceToNat] at f2 f3 f4 f5
    have s0 : nv β 0 = nv α1 0 := nv_le H1.1 (by omega)
    have s1 : nv β 1 = nv α1 1 := nv_le H1.1 (by omega)
    have s2 : nv β 2 = nv α1 2 := nv_le H1.1 (by omega)
    have s3 : nv β 3 = nv α1 3 := nv_le H1.1 (by omega)
    subst S'
    have e6 : S1.1 806 = S.1 806 := fr_row hf 806 (by decide +kernel)
    have e9 : S1.1 839 = S.1 839 := fr_row hf 839 (by decide +kernel)
    have eh : hgt S1 (nv xs 1) = hgt S (nv xs 1) := by unfold hgt; rw [e6]
    have hFF := hp.2.2 (by omega)
    have hfin := h_fin hp.1 hFF (fun j hj => rg_bd (q_rg_in (q := ((840, 840), (0, 11, 1), (0, 0, 99, 1))) (by decide +kernel) H) (j := j) (by omega))
    have hD : wDs S1 (nv xs 1) (nv xs 2) := by
      refine ⟨fun y hy => ?_, fun t t1 t2 t3 => hFF t t1 t2 ((wOp_e t2 e6 e9).mp t3), ?_⟩
      · rcases hfin y hy with g | g | ⟨g1, g2, t, t1, t2, t3⟩
        · exact Or.inl g
        · obtain ⟨q1, q2⟩ := hp.2.1.1 y hy g
          exact Or.inr (Or.inl ⟨g, q1, by rw [eh]; exact q2⟩)
        · exact Or.inr (Or.inr ⟨g1, g2, t, t1, (wOp_e t1 e6 e9).mpr t2, t3⟩)
      · rw [eh]; exact hp.2.1.2
    exact hd_retVR G (by decide +kernel) (as_backM H1 (by decide +kernel) hxa hf) (by decide +kernel) (by decide) hD
  · have hst := st_nil H1 rfl
    subst hst
    obtain ⟨f1, f2, f3, f4, f5⟩ := as_fx H1
    simp only [kh_wReach2_b58_1, fx_env, fx_c, fx_ne, fx_hf, wl_S, Nat.zero_add, Nat.reduceAdd, Nat.reduceDiv, Nat.reduceMod, List.getElem?_cons_zero, List.getElem?_cons_succ, if_true, and_true, true_and] at f1 f2 f3 f4 f5
    have fe0 : nv β 0 = 805 := by omega
    have fe3 : nv β 3 = 1 := by omega
    have fe4 : nv β 4 = 0 := by omega
    have fe5 : nv β 5 = 0 := by omega
    try simp only [fe0, fe3, fe4, fe5, Int.reduceToNat] at f2 f3 f4 f5
    have s0 : nv β 0 = nv α1 0 := nv_le H1.1 (by omega)
    have s1 : nv β 1 = nv α1 1 := nv_le H1.1 (by omega)
    have s2 : nv β 2 = nv α1 2 := nv_le H1.1 (by omega)
    have s3 : nv β 3 = nv α1 3 := nv_le H1.1 (by omega)
    obtain ⟨α', Ha, hm⟩ := hd_gpM (q := kh_wReach2_a67) (n := 0) (by decide +kernel) hx H1 (by decide +kernel) hxa hf
    have hfr := H1.2.2.2.2.2.2.2.2.2.2.1
    have m0 : nv α' 0 = nv β 0 := hm 0 0 rfl
    have m1 : nv α' 1 = nv β 1 := hm 1 1 rfl
    have m2 : nv α' 2 = nv β 2 := hm 2 2 rfl
    have m3 : nv α' 3 = nv β 4 := hm 3 4 rfl
    have m4 : nv α' 4 = nv β 5 := hm 4 5 rfl
    subst S'
    refine ih.2.2.1 _ _ _ Ha ?_ ?_
    · exact ⟨hp.1, hp.2.1, fun _ t ht _ _ => by rw [m4] at ht; omega⟩
    · rw [m4, m3]; omega
set_option maxHeartbeats 16000000 in
set_option maxRecDepth 8000 in
theorem kh_wReach2_h67_0 {l : Launch} {D : va_G} {tc : Nat → ClassId} {ad : Nat → Nat} {kd : Nat → Nat × Nat} {N : Nat} {sm : Nat → Nat} {xs : List av_X} {S : fw_S} {p : Program} {e : Env} {s : State} {m : MethodId} {args : Array Value} {below : List Frame} {meth : Method} {c : Code} {sz : Nat} {lvE : List (Nat × Value)} (G : hd_C wd_ff2 wd_fl2 kh_wReach2 [kh_heightOf, kh_low, kh_high, kh_wOpen] kh_wReach2_y l D tc ad kd N sm xs p s m args meth c sz) (H0 : as_in ad sm wd_fl2 xs S kh_wReach2.2.2.2.2.2.1 xs (hd_0 kh_wReach2) lvE [] S) {k : Nat} (ih : kh_wReach2_I l D tc ad kd N sm xs S p e s m args below meth c sz k) {α α1 β : List av_X} {lv lv' : List (Nat × Value)} {st' : List Value} {S1 S' : fw_S} (H : as_in ad sm wd_fl2 xs S kh_wReach2.2.2.2.2.2.1 α kh_wReach2_a67.2.2.1 lv [] S1) (hp : hWg (S1.1 840) (fun t => wOpP S t (nv xs 2)) ∧ wE (S1.1 840) (nv xs 1) (hgt S (nv xs 1) ≤ nv xs 2) ∧ (nv α 3 = 0 → hFg (S1.1 840) (fun t => wOpP S t (nv xs 2)) (nv α 4))) (hk : 100 * (sm_S (S1.1 840) 12).toNat + (17 - nv α 4).toNat + 60 * (nv α 3).toNat + 1 < k + 1) (hle : al_le α α1) (Hr : as_in ad sm wd_fl2 α1 S1 [((840, 840), (0, 10, 1)), ((840, 840), (1, 11, 1))] α1 (as_rec kh_wReach2_a67.2.2.1 []) lv [] S1) (H1 : as_in ad sm wd_fl2 α1 S1 [((840, 840), (0, 10, 1)), ((840, 840), (1, 11, 1))] β kh_wReach2_b67_0.2.2 lv' st' S') : hd_WR R_wReach wd_fl2 kh_wReach2 kh_wReach2_y l D tc ad kd N sm xs S p e s m args below meth c sz kh_wReach2_b67_0.1 lv' st' S' kh_wReach2_b67_0.2.1 := by
  have hx : xs.length = 3 := by rw [H0.2.1.1]; rfl
  have hf := H.2.2.2.2.2.2.2.2.2.2.1
  have hl1 : α1.length = 5 := by rw [Hr.2.1.1]; rfl
  have hl0 : α.length = 5 := by rw [H.2.1.1]; rfl
  have hxa : al_le xs α1 := H.1.trans hle
  obtain ⟨g1, -, g3, g4, -⟩ := as_fx Hr
  have g0 : (805 ≤ nv α1 0 ∧ nv α1 0 ≤ 805) ∧ (0 ≤ nv α1 1 ∧ nv α1 1 ≤ 11) ∧ ((-2147483648) ≤ nv α1 2 ∧ nv α1 2 ≤ 2147483647) ∧ (0 ≤ nv α1 3 ∧ nv α1 3 ≤ 1) ∧ (0 ≤ nv α1 4 ∧ nv α1 4 ≤ 17) ∧ True := by
    refine ⟨by have h := (en_nv (i := 0) Hr.2.1 rfl).2; exact h, by have h := (en_nv (i := 1) Hr.2.1 rfl).2; exact h, by have h := (en_nv (i := 2) Hr.2.1 rfl).2; exact h, by have h := (en_nv (i := 3) Hr.2.1 rfl).2; exact h, by have h := (en_nv (i := 4) Hr.2.1 rfl).2; exact h, trivial⟩
  have r0 : nv α1 0 = nv α 0 := nv_le hle (by omega)
  have r1 : nv α1 1 = nv α 1 := nv_le hle (by omega)
  have r2 : nv α1 2 = nv α 2 := nv_le hle (by omega)
  have r3 : nv α1 3 = nv α 3 := nv_le hle (by omega)
  have r4 : nv α1 4 = nv α 4 := nv_le hle (by omega)
  have hst := st_nil H1 rfl
  subst hst
  obtain ⟨f1, f2, f3, f4, f5⟩ := as_fx H1
  simp only [kh_wReach2_b67_0, fx_env, fx_c, fx_ne, fx_hf, wl_S, Nat.zero_add, Nat.reduceAdd, Nat.reduceDiv, Nat.reduceMod, List.getElem?_cons_zero, List.getElem?_cons_succ, if_true, and_true, true_and] at f1 f2 f3 f4 f5
  have fe0 : nv β 0 = 805 := by omega
  have fe4 : nv β 4 = 17 := by omega
  have fe5 : nv β 5 = 17 := by omega
  try simp only [fe0, fe4, fe5, Int.reduceToNat] at f2 f3 f4 f5
  have s0 : nv β 0 = nv α1 0 := nv_le H1.1 (by omega)
  have s1 : nv β 1 = nv α1 1 := nv_le H1.1 (by omega)
  have s2 : nv β 2 = nv α1 2 := nv_le H1.1 (by omega)
  have s3 : nv β 3 = nv α1 3 := nv_le H1.1 (by omega)
  have s4 : nv β 4 = nv α1 4 := nv_le H1.1 (by omega)
  have c0 := f2
  obtain ⟨α', Ha, hm⟩ := hd_gpM (q := kh_wReach2_a58) (n := 0) (by decide +kernel) hx H1 (by decide +kernel) hxa hf
  have hfr := H1.2.2.2.2.2.2.2.2.2.2.1
  have m0 : nv α' 0 = nv β 0 := hm 0 0 rfl
  have m1 : nv α' 1 = nv β 1 := hm 1 1 rfl
  have m2 : nv α' 2 = nv β 2 := hm 2 2 rfl
  have m3 : nv α' 3 = nv β 3 := hm 3 3 rfl
  subst S'
  refine ih.2.1 _ _ _ Ha ?_ ?_
  · exact ⟨hp.1, hp.2.1, fun hg => by have h := hp.2.2 (by omega); rw [show nv α 4 = 17 by omega] at h; exact h⟩
  · rw [m3]; omega
set_option maxHeartbeats 16000000 in
set_option maxRecDepth 8000 in
theorem kh_wReach2_h67_1 {l : Launch} {D : va_G} {tc : Nat → ClassId} {ad : Nat → Nat} {kd : Nat → Nat × Nat} {N : Nat} {sm : Nat → Nat} {xs : List av_X} {S : fw_S} {p : Program} {e : Env} {s : State} {m : MethodId} {args : Array Value} {below : List Frame} {meth : Method} {c : Code} {sz : Nat} {lvE : List (Nat × Value)} (G : hd_C wd_ff2 wd_fl2 kh_wReach2 [kh_heightOf, kh_low, kh_high, kh_wOpen] kh_wReach2_y l D tc ad kd N sm xs p s m args meth c sz) (H0 : as_in ad sm wd_fl2 xs S kh_wReach2.2.2.2.2.2.1 xs (hd_0 kh_wReach2) lvE [] S) {k : Nat} (ih : kh_wReach2_I l D tc ad kd N sm xs S p e s m args below meth c sz k) {α α1 β : List av_X} {lv lv' : List (Nat × Value)} {st' : List Value} {S1 S' : fw_S} (H : as_in ad sm wd_fl2 xs S kh_wReach2.2.2.2.2.2.1 α kh_wReach2_a67.2.2.1 lv [] S1) (hp : hWg (S1.1 840) (fun t => wOpP S t (nv xs 2)) ∧ wE (S1.1 840) (nv xs 1) (hgt S (nv xs 1) ≤ nv xs 2) ∧ (nv α 3 = 0 → hFg (S1.1 840) (fun t => wOpP S t (nv xs 2)) (nv α 4))) (hk : 100 * (sm_S (S1.1 840) 12).toNat + (17 - nv α 4).toNat + 60 * (nv α 3).toNat + 1 < k + 1) (hle : al_le α α1) (Hr : as_in ad sm wd_fl2 α1 S1 [((840, 840), (0, 10, 1)), ((840, 840), (1, 11, 1))] α1 (as_rec kh_wReach2_a67.2.2.1 []) lv [] S1) (H1 : as_in ad sm wd_fl2 α1 S1 [((840, 840), (0, 10, 1)), ((840, 840), (1, 11, 1))] β kh_wReach2_b67_1.2.2 lv' st' S') : hd_WR R_wReach wd_fl2 kh_wReach2 kh_wReach2_y l D tc ad kd N sm xs S p e s m args below meth c sz kh_wReach2_b67_1.1 lv' st' S' kh_wReach2_b67_1.2.1 := by
  have hx : xs.length = 3 := by rw [H0.2.1.1]; rfl
  have hf := H.2.2.2.2.2.2.2.2.2.2.1
  have hl1 : α1.length = 5 := by rw [Hr.2.1.1]; rfl
  have hl0 : α.length = 5 := by rw [H.2.1.1]; rfl
  have hxa : al_le xs α1 := H.1.trans hle
  obtain ⟨g1, -, g3, g4, -⟩ := as_fx Hr
  have g0 : (805 ≤ nv α1 0 ∧ nv α1 0 ≤ 805) ∧ (0 ≤ nv α1 1 ∧ nv α1 1 ≤ 11) ∧ ((-2147483648) ≤ nv α1 2 ∧ nv α1 2 ≤ 2147483647) ∧ (0 ≤ nv α1 3 ∧ nv α1 3 ≤ 1) ∧ (0 ≤ nv α1 4 ∧ nv α1 4 ≤ 17) ∧ True := by
    refine ⟨by have h := (en_nv (i := 0) Hr.2.1 rfl).2; exact h, by have h := (en_nv (i := 1) Hr.2.1 rfl).2; exact h, by have h := (en_nv (i := 2) Hr.2.1 rfl).2; exact h, by have h := (en_nv (i := 3) Hr.2.1 rfl).2; exact h, by have h := (en_nv (i := 4) Hr.2.1 rfl).2; exact h, trivial⟩
  have r0 : nv α1 0 = nv α 0 := nv_le hle (by omega)
  have r1 : nv α1 1 = nv α 1 := nv_le hle (by omega)
  have r2 : nv α1 2 = nv α 2 := nv_le hle (by omega)
  have r3 : nv α1 3 = nv α 3 := nv_le hle (by omega)
  have r4 : nv α1 4 = nv α 4 := nv_le hle (by omega)
  have hst := st_nil H1 rfl
  subst hst
  obtain ⟨f1, f2, f3, f4, f5⟩ := as_fx H1
  simp only [kh_wReach2_b67_1, fx_env, fx_c, fx_ne, fx_hf, wl_S, Nat.zero_add, Nat.reduceAdd, Nat.reduceDiv, Nat.reduceMod, List.getElem?_cons_zero, List.getElem?_cons_succ, if_true, and_true, true_and] at f1 f2 f3 f4 f5
  have fe0 : nv β 0 = 805 := by omega
  have fe5 : nv β 5 = 17 := by omega
  have fe6 : nv β 6 = 840 := by omega
  have fe9 : nv β 9 = 840 := by omega
  have fe12 : nv β 12 = 1 := by omega
  have fe14 : nv β 14 = 0 := by omega
  try simp only [fe0, fe5, fe6, fe9, fe12, fe14, Int.reduceToNat] at f2 f3 f4 f5
  have s0 : nv β 0 = nv α1 0 := nv_le H1.1 (by omega)
  have s1 : nv β 1 = nv α1 1 := nv_le H1.1 (by omega)
  have s2 : nv β 2 = nv α1 2 := nv_le H1.1 (by omega)
  have s3 : nv β 3 = nv α1 3 := nv_le H1.1 (by omega)
  have s4 : nv β 4 = nv α1 4 := nv_le H1.1 (by omega)
  obtain ⟨c0, c1, c2, c3, c4, c5, c6, c7⟩ := f2
  obtain ⟨α', Ha, hm⟩ := hd_gpM (q := kh_wReach2_a67) (n := 0) (by decide +kernel) hx H1 (by decide +kernel) hxa hf
  have hfr := H1.2.2.2.2.2.2.2.2.2.2.1
  have m0 : nv α' 0 = nv β 0 := hm 0 0 rfl
  have m1 : nv α' 1 = nv β 1 := hm 1 1 rfl
  have m2 : nv α' 2 = nv β 2 := hm 2 2 rfl
  have m3 : nv α' 3 = nv β 3 := hm 3 3 rfl
  have m4 : nv α' 4 = nv β 15 := hm 4 15 rfl
  subst S'
  have z1 : nv α 1 = nv xs 1 := nv_le H.1 (by omega)
  have z2 : nv α 2 = nv xs 2 := nv_le H.1 (by omega)
  have e6 : S1.1 806 = S.1 806 := fr_row hf 806 (by decide +kernel)
  have e9 : S1.1 839 = S.1 839 := fr_row hf 839 (by decide +kernel)
  have d0 := c0
  simp only [wd_fl2, if_neg (show ¬ (wd_base1 1021 = true) by decide)] at d0
  have d4 := fl1_b (by decide) (fl2_b (by decide) c4)
  simp only [wd_fl] at d4
  have d6 := fl1_b (by decide) (fl2_b (by decide) c6)
  simp only [wd_fl] at d6
  have oL := old_0 c5 rfl
  have oH := old_0 c3 rfl
  have ht : (((nv β 4).toNat : Nat) : Int) = nv β 4 := Int.toNat_of_nonneg (by omega)
  have hop : wOpP S1 (nv β 4) (nv β 2) ↔ wOpP S (((nv β 4).toNat : Nat) : Int) (nv xs 2) := by
    have := wOp_e (S1 := S1) (S := S) (t := (nv β 4).toNat) (h := nv xs 2) (by omega) e6 e9
    rw [ht] at this ⊢
    rw [show nv β 2 = nv xs 2 by omega]
    exact this
  have hF : nv α' 3 = 0 → hFg (S1.1 840) (fun t => wOpP S t (nv xs 2)) (nv β 4 + 1) := by
    intro hg t h1 h2 h3
    by_cases e : (t : Int) < nv α 4
    · exact hp.2.2 (by omega) t e h2 h3
    · have et : t = (nv β 4).toNat := by omega
      subst et
      exact absurd (hop.mpr h3) (b2i_0 (d0.symm.trans (by omega)))
  refine ih.2.2.1 _ _ _ Ha ?_ ?_
  · exact ⟨hp.1, hp.2.1, fun hg => by rw [m4, show nv β 15 = nv β 4 + 1 by omega]; exact hF hg⟩
  · clear hop hF; rw [m4, m3]; omega
set_option maxHeartbeats 16000000 in
set_option maxRecDepth 8000 in
theorem kh_wReach2_h67_2 {l : Launch} {D : va_G} {tc : Nat → ClassId} {ad : Nat → Nat} {kd : Nat → Nat × Nat} {N : Nat} {sm : Nat → Nat} {xs : List av_X} {S : fw_S} {p : Program} {e : Env} {s : State} {m : MethodId} {args : Array Value} {below : List Frame} {meth : Method} {c : Code} {sz : Nat} {lvE : List (Nat × Value)} (G : hd_C wd_ff2 wd_fl2 kh_wReach2 [kh_heightOf, kh_low, kh_high, kh_wOpen] kh_wReach2_y l D tc ad kd N sm xs p s m args meth c sz) (H0 : as_in ad sm wd_fl2 xs S kh_wReach2.2.2.2.2.2.1 xs (hd_0 kh_wReach2) lvE [] S) {k : Nat} (ih : kh_wReach2_I l D tc ad kd N sm xs S p e s m args below meth c sz k) {α α1 β : List av_X} {lv lv' : List (Nat × Value)} {st' : List Value} {S1 S' : fw_S} (H : as_in ad sm wd_fl2 xs S kh_wReach2.2.2.2.2.2.1 α kh_wReach2_a67.2.2.1 lv [] S1) (hp : hWg (S1.1 840) (fun t => wOpP S t (nv xs 2)) ∧ wE (S1.1 840) (nv xs 1) (hgt S (nv xs 1) ≤ nv xs 2) ∧ (nv α 3 = 0 → hFg (S1.1 840) (fun t => wOpP S t (nv xs 2)) (nv α 4))) (hk : 100 * (sm_S (S1.1 840) 12).toNat + (17 - nv α 4).toNat + 60 * (nv α 3).toNat + 1 < k + 1) (hle : al_le α α1) (Hr : as_in ad sm wd_fl2 α1 S1 [((840, 840), (0, 10, 1)), ((840, 840), (1, 11, 1))] α1 (as_rec kh_wReach2_a67.2.2.1 []) lv [] S1) (H1 : as_in ad sm wd_fl2 α1 S1 [((840, 840), (0, 10, 1)), ((840, 840), (1, 11, 1))] β kh_wReach2_b67_2.2.2 lv' st' S') : hd_WR R_wReach wd_fl2 kh_wReach2 kh_wReach2_y l D tc ad kd N sm xs S p e s m args below meth c sz kh_wReach2_b67_2.1 lv' st' S' kh_wReach2_b67_2.2.1 := by
  have hx : xs.length = 3 := by rw [H0.2.1.1]; rfl
  have hf := H.2.2.2.2.2.2.2.2.2.2.1
  have hl1 : α1.length = 5 := by rw [Hr.2.1.1]; rfl
  have hl0 : α.length = 5 := by rw [H.2.1.1]; rfl
  have hxa : al_le xs α1 := H.1.trans hle
  obtain ⟨g1, -, g3, g4, -⟩ := as_fx Hr
  have g0 : (805 ≤ nv α1 0 ∧ nv α1 0 ≤ 805) ∧ (0 ≤ nv α1 1 ∧ nv α1 1 ≤ 11) ∧ ((-2147483648) ≤ nv α1 2 ∧ nv α1 2 ≤ 2147483647) ∧ (0 ≤ nv α1 3 ∧ nv α1 3 ≤ 1) ∧ (0 ≤ nv α1 4 ∧ nv α1 4 ≤ 17) ∧ True := by
    refine ⟨by have h := (en_nv (i := 0) Hr.2.1 rfl).2; exact h, by have h := (en_nv (i := 1) Hr.2.1 rfl).2; exact h, by have h := (en_nv (i := 2) Hr.2.1 rfl).2; exact h, by have h := (en_nv (i := 3) Hr.2.1 rfl).2; exact h, by have h := (en_nv (i := 4) Hr.2.1 rfl).2; exact h, trivial⟩
  have r0 : nv α1 0 = nv α 0 := nv_le hle (by omega)
  have r1 : nv α1 1 = nv α 1 := nv_le hle (by omega)
  have r2 : nv α1 2 = nv α 2 := nv_le hle (by omega)
  have r3 : nv α1 3 = nv α 3 := nv_le hle (by omega)
  have r4 : nv α1 4 = nv α 4 := nv_le hle (by omega)
  have hst := st_nil H1 rfl
  subst hst
  obtain ⟨f1, f2, f3, f4, f5⟩ := as_fx H1
  simp only [kh_wReach2_b67_2, fx_env, fx_c, fx_ne, fx_hf, wl_S, Nat.zero_add, Nat.reduceAdd, Nat.reduceDiv, Nat.reduceMod, List.getElem?_cons_zero, List.getElem?_cons_succ, if_true, and_true, true_and] at f1 f2 f3 f4 f5
  have fe0 : nv β 0 = 805 := by omega
  have fe5 : nv β 5 = 17 := by omega
  have fe6 : nv β 6 = 840 := by omega
  have fe9 : nv β 9 = 840 := by omega
  have fe12 : nv β 12 = 1 := by omega
  have fe14 : nv β 14 = 1 := by omega
  have fe15 : nv β 15 = 840 := by omega
  have fe17 : nv β 17 = 1 := by omega
  have fe19 : nv β 19 = 840 := by omega
  have fe21 : nv β 21 = 1 := by omega
  have fe23 : nv β 23 = 1 := by omega
  try simp only [fe0, fe5, fe6, fe9, fe12, fe14, fe15, fe17, fe19, fe21, fe23, Int.reduceToNat] at f2 f3 f4 f5
  have s0 : nv β 0 = nv α1 0 := nv_le H1.1 (by omega)
  have s1 : nv β 1 = nv α1 1 := nv_le H1.1 (by omega)
  have s2 : nv β 2 = nv α1 2 := nv_le H1.1 (by omega)
  have s3 : nv β 3 = nv α1 3 := nv_le H1.1 (by omega)
  have s4 : nv β 4 = nv α1 4 := nv_le H1.1 (by omega)
  obtain ⟨c0, c1, c2, c3, c4, c5, c6, c7, c8, c9, c10, c11, c12, c13⟩ := f2
  obtain ⟨α', Ha, hm⟩ := hd_gpM (q := kh_wReach2_a67) (n := 0) (by decide +kernel) hx H1 (by decide +kernel) hxa hf
  have hfr := H1.2.2.2.2.2.2.2.2.2.2.1
  have m0 : nv α' 0 = nv β 0 := hm 0 0 rfl
  have m1 : nv α' 1 = nv β 1 := hm 1 1 rfl
  have m2 : nv α' 2 = nv β 2 := hm 2 2 rfl
  have m3 : nv α' 3 = nv β 23 := hm 3 23 rfl
  have m4 : nv α' 4 = nv β 24 := hm 4 24 rfl
  subst S'
  have z1 : nv α 1 = nv xs 1 := nv_le H.1 (by omega)
  have z2 : nv α 2 = nv xs 2 := nv_le H.1 (by omega)
  have e6 : S1.1 806 = S.1 806 := fr_row hf 806 (by decide +kernel)
  have e9 : S1.1 839 = S.1 839 := fr_row hf 839 (by decide +kernel)
  have d2 := fl1_b (by decide) (fl2_b (by decide) c2)
  simp only [wd_fl] at d2
  have d5 := fl1_b (by decide) (fl2_b (by decide) c5)
  simp only [wd_fl] at d5
  have d6 := c6
  simp only [wd_fl2, if_neg (show ¬ (wd_base1 1021 = true) by decide)] at d6
  have d10 := fl1_b (by decide) (fl2_b (by decide) c10)
  simp only [wd_fl] at d10
  have d12 := fl1_b (by decide) (fl2_b (by decide) c12)
  simp only [wd_fl] at d12
  have oL := old_0 c11 rfl
  have oH := old_0 c9 rfl
  have ht : (((nv β 4).toNat : Nat) : Int) = nv β 4 := Int.toNat_of_nonneg (by omega)
  have hop : wOpP S1 (nv β 4) (nv β 2) ↔ wOpP S (((nv β 4).toNat : Nat) : Int) (nv xs 2) := by
    have := wOp_e (S1 := S1) (S := S) (t := (nv β 4).toNat) (h := nv xs 2) (by omega) e6 e9
    rw [ht] at this ⊢
    rw [show nv β 2 = nv xs 2 by omega]
    exact this
  have hi1 : (nv β 16).toNat = (lowI ((nv β 4).toNat : Nat)).toNat := by rw [ht]; omega
  have hi2 : (nv β 20).toNat = (highI ((nv β 4).toNat : Nat)).toNat := by rw [ht]; omega
  have hopen := hop.mp (b2i_1 (d6.symm.trans (by omega)))
  have aL : (S1.1 840 (lowI ((nv β 4).toNat : Nat)).toNat).toInt = nv β 8 := by rw [ht, ← d12]; exact oL
  have aH : (S1.1 840 (highI ((nv β 4).toNat : Nat)).toNat).toInt = nv β 11 := by rw [ht, ← d10]; exact oH
  have U := h_upd (L := fun t => wOpP S t (nv xs 2)) (t := (nv β 4).toNat) (a := nv β 8) (b := nv β 11) (va := nv β 8) (vb := nv β 11) hp.1 (by omega) hopen aL aH (by omega) (by omega) (by omega) (by omega)
  have V := wE_upd (t := (nv β 4).toNat) (a := nv β 8) (b := nv β 11) (va := nv β 8) (vb := nv β 11) hp.2.1 (by omega) aL aH (by omega) (by omega) (by omega)
  have R : (fw_i (fw_i S1 840 (nv β 16).toNat (Int32.ofInt (nv β 8))) 840 (nv β 20).toNat (Int32.ofInt (nv β 11))).1 840 = rw_u (rw_u (S1.1 840) (lowI ((nv β 4).toNat : Nat)).toNat (nv β 8)) (highI ((nv β 4).toNat : Nat)).toNat (nv β 11) := by rw [fw_i_u, fw_i_u, hi1, hi2]
  have hb2 := sm_bd (n := 12) (fun j hj => rg_bd (q_rg_in (q := ((840, 840), (0, 11, 1), (0, 0, 99, 1))) (by decide +kernel) Ha) (j := j) (by omega))
  rw [R] at hb2
  refine ih.2.2.1 _ _ _ Ha ?_ ?_
  · exact ⟨by rw [R]; exact U.1, by rw [R]; exact V, fun hg => by clear hop hopen U V hp; omega⟩
  · have hU := U.2; clear hop hopen U V hp; rw [R, m4, m3]; omega
