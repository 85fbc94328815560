/-! ===== wSend: less is wanted then ===== -/
def yS (f : Nat → Int32) : Nat → Nat
  | 0 => 0
  | n + 1 => yS f n + (f n).toInt.toNat
theorem yS_off {f g : Nat → Int32} : ∀ {n : Nat}, (∀ i, i < n → g i = f i) → yS g n = yS f n
  | 0, _ => rfl
  | n + 1, h => by rw [yS, yS, yS_off (fun i hi => h i (by omega)), h n (by omega)]
theorem yS_upd {f g : Nat → Int32} {j : Nat} (h : ∀ i, i ≠ j → g i = f i) : ∀ {n : Nat}, j < n → yS g n + (f j).toInt.toNat = yS f n + (g j).toInt.toNat
  | 0, hj => by omega
  | n + 1, hj => by
    rw [yS, yS]
    by_cases e : j = n
    · subst e
      rw [yS_off (fun i hi => h i (by omega))]
      omega
    · have := yS_upd h (n := n) (by omega)
      rw [h n (by omega)]
      omega
def R_wSend : List av_X → fw_S → fw_O → fw_S → Prop := fun _ S _ S' => yS (S'.1 832) 12 + 1 ≤ yS (S.1 832) 12
theorem bnd_999 {S : fw_S} {t : Int} (h : rg_in S ((806, 806), (141, 341, 4), (0, 0, 999, 1))) (ht : 0 ≤ t ∧ t ≤ 16) : lkv S 1 t 1 ≤ 999 := by
  have := h 806 (140 + 4 * (17 * 1 + t) + 1).toNat (Nat.le_refl _) (Nat.le_refl _) (pg_mk (by omega) (by omega) (by omega))
  exact this.2.2.2.1
abbrev kh_wSend_y : mt_T := (⟨"UtilityWorksModel", "wSend", "()I"⟩, prog_14_method_122_code, 4, some .int, 12, 1, 0, 34189, 34188, 11013, 21014)
def kh_wSend : ct_T := (474, [(2, 805, 805, 0)], [], [504], [(1, (0, (-2147483648), 2147483647, 1), [(2, 805, 805, 0)], [], ([], []))], [((829, 829), (0, 6, 1)), ((830, 830), (0, 6, 1)), ((832, 832), (0, 11, 1)), ((839, 839), (0, 33, 1)), ((840, 840), (0, 11, 1)), ((841, 841), (0, 10, 1))], 7, 165, 0)
def kh_wSend_a23 : an_T := (23, 0, ([((2, 805, 805, 0), none), ((0, (-2147483648), 2147483647, 1), none), ((0, 0, 11, 1), none), ((0, 0, 11, 1), none)], [(0, 0)], [1, 2, 3, 0], [], [], [], [], [], none), [])
def kh_wSend_a26 : an_T := (26, 0, ([((2, 805, 805, 0), none), ((0, 0, 11, 1), none)], [(0, 0)], [1], [], [], [], [], [], none), [])
def kh_wSend_a72 : an_T := (72, 0, ([((2, 805, 805, 0), none), ((0, 0, 11, 1), none), ((0, (-2147483648), 2147483647, 1), none), ((0, 0, 11, 1), none)], [(0, 0), (1, 1), (2, 2), (3, 3)], [], [], [], [], [], [], none), [])
def kh_wSend_a118 : an_T := (118, 0, ([((2, 805, 805, 0), none), ((0, 0, 11, 1), none), ((0, 1, 2147483647, 1), none), ((0, 0, 11, 1), none)], [(0, 0), (1, 1), (2, 2), (3, 3)], [], [], [], [], [], [], none), [])
def kh_wSend_a137 : an_T := (137, 0, ([((2, 805, 805, 0), none), ((0, 1, 11, 1), none), ((0, 1, 2147483647, 1), none), ((0, 0, 10, 1), none), ((0, (-2147483648), 2147483647, 1), none), ((0, 0, 33, 1), none), ((2, 839, 839, 1), none)], [(0, 0), (1, 1), (2, 2), (3, 3)], [4, 5, 6], [], [], [], [], [], none), [])
def kh_wSend_a170 : an_T := (170, 0, ([((2, 805, 805, 0), none), ((0, 0, 11, 1), none), ((0, 1, 2147483647, 1), none), ((0, 0, 11, 1), none)], [(0, 0), (1, 1), (2, 2), (3, 3)], [], [], [], [], [], [], none), [])
def kh_wSend_b0_0 : sg_T := (23, 0, ([((2, 805, 805, 0), none), ((2, 827, 827, 1), none), ((0, 46, 46, 0), none), ((0, 0, 6, 1), none), ((0, 0, 11, 1), none), ((0, 47, 47, 0), none), ((0, 0, 11, 1), none), ((2, 828, 828, 1), none), ((0, 46, 46, 0), none), ((0, (-2147483648), 2147483647, 1), none)], [(0, 0)], [9, 6, 4, 0], [(7, 3, 9), (0, 5, 6), (1, 3, 4), (0, 2, 3)], [], [(800009, 7, 3), (800006, 0, 5), (800004, 1, 3), (800003, 0, 2)], [], [504], some []))
def kh_wSend_b23_0 : sg_T := (26, 0, ([((2, 805, 805, 0), none), ((0, (-2147483648), 2147483647, 1), none), ((0, 0, 11, 1), none), ((0, 0, 11, 1), none), ((0, 0, 11, 1), none)], [(0, 0)], [4], [], [], [], [], [], none))
def kh_wSend_b26_0 : sg_T := (72, 0, ([((2, 805, 805, 0), none), ((0, 0, 11, 1), none), ((2, 829, 829, 1), none), ((0, 46, 46, 0), none), ((0, 0, 6, 1), none), ((0, (-2147483648), 2147483647, 1), none), ((2, 832, 832, 1), none), ((0, 47, 47, 0), none), ((0, 0, 11, 1), none), ((0, (-2147483648), 2147483647, 1), none), ((2, 832, 832, 1), none), ((0, 47, 47, 0), none), ((0, 0, 0, 0), none)], [(3, 12), (2, 9), (1, 1), (0, 0)], [], [(6, 8, 9), (0, 7, 8), (2, 4, 5), (0, 3, 4)], [], [(200000, 9, 5), (800009, 6, 8), (800008, 0, 7), (800005, 2, 4), (800004, 0, 3)], [], [], some []))
def kh_wSend_b26_1 : sg_T := (72, 0, ([((2, 805, 805, 0), none), ((0, 0, 11, 1), none), ((2, 829, 829, 1), none), ((0, 46, 46, 0), none), ((0, 0, 6, 1), none), ((0, (-2147483648), 2147483646, 1), none), ((2, 832, 832, 1), none), ((0, 47, 47, 0), none), ((0, 0, 11, 1), none), ((0, (-2147483647), 2147483647, 1), none), ((2, 829, 829, 1), none), ((0, 46, 46, 0), none), ((0, 0, 0, 0), none)], [(3, 12), (2, 5), (1, 1), (0, 0)], [], [(6, 8, 9), (0, 7, 8), (2, 4, 5), (0, 3, 4)], [], [(100000, 5, 9), (800009, 6, 8), (800008, 0, 7), (800005, 2, 4), (800004, 0, 3)], [], [], some []))
def kh_wSend_b72_0 : sg_T := (118, 0, ([((2, 805, 805, 0), none), ((0, 0, 11, 1), none), ((0, 1, 2147483647, 1), none), ((0, 0, 11, 1), none), ((0, 0, 0, 0), none)], [(3, 4), (0, 0), (1, 1), (2, 2)], [], [], [], [(200000, 1, 3)], [], [], some []))
def kh_wSend_b72_1 : sg_T := (72, 0, ([((2, 805, 805, 0), none), ((0, 1, 11, 1), none), ((0, 1, 999, 1), none), ((0, 0, 10, 1), none), ((2, 841, 841, 1), none), ((0, 0, 33, 1), none), ((0, 2, 2, 0), none), ((0, 0, 16, 1), none), ((0, 1, 999, 1), none), ((0, 1, 11, 1), some (3, 1))], [(3, 9), (2, 2), (0, 0), (1, 1)], [], [(4, 3, 5)], [], [(200000, 2, 8), (102200008, 7, 7), (900007, 5, 6), (800005, 4, 3), (100000, 3, 1)], [], [], some []))
def kh_wSend_b72_2 : sg_T := (72, 0, ([((2, 805, 805, 0), none), ((0, 1, 11, 1), none), ((0, 1, 2147483647, 1), none), ((0, 0, 10, 1), none), ((2, 841, 841, 1), none), ((0, 0, 33, 1), none), ((0, 2, 2, 0), none), ((0, 0, 16, 1), none), ((0, (-1998), 999, 1), none), ((2, 841, 841, 1), none), ((0, 2, 2, 0), none), ((0, 0, 16, 1), none), ((0, (-1998), 999, 1), none), ((0, 1, 11, 1), some (3, 1))], [(3, 13), (2, 12), (0, 0), (1, 1)], [], [(4, 3, 5)], [], [(102200012, 11, 11), (900011, 5, 10), (100000, 8, 2), (102200008, 7, 7), (900007, 5, 6), (800005, 4, 3), (100000, 3, 1)], [], [], some []))
def kh_wSend_b118_0 : sg_T := (170, 0, ([((2, 805, 805, 0), none), ((0, 0, 11, 1), none), ((0, 1, 2147483647, 1), none), ((0, 0, 11, 1), none), ((2, 829, 829, 1), none), ((0, 46, 46, 0), none), ((0, 0, 6, 1), none), ((0, (-2147483648), 2147483647, 1), none), ((0, (-2147483648), 2147483647, 1), none), ((2, 830, 830, 1), none), ((0, 46, 46, 0), none), ((0, (-2147483648), 2147483647, 1), none), ((0, (-2147483648), 2147483647, 1), none)], [(0, 0), (1, 1), (2, 2), (3, 3)], [], [(9, 6, 12), (4, 6, 8), (0, 5, 6)], [], [(900000012, 11, 2), (900100008, 7, 2), (800007, 4, 6), (800006, 0, 5), (200000, 1, 3)], [], [], some [(9, 6, 12), (4, 6, 8)]))
def kh_wSend_b118_1 : sg_T := (137, 0, ([((2, 805, 805, 0), none), ((0, 1, 11, 1), none), ((0, 1, 2147483647, 1), none), ((0, 0, 10, 1), none), ((2, 839, 839, 1), none), ((2, 841, 841, 1), none), ((0, 0, 33, 1), none), ((0, 0, 999, 1), none), ((0, (-2147483648), 2147483647, 1), none)], [(0, 0), (1, 1), (2, 2), (3, 3)], [8, 6, 4], [(4, 6, 7), (5, 3, 6)], [], [(900000008, 7, 2), (800007, 4, 6), (800006, 5, 3), (100000, 3, 1)], [], [], some []))
def kh_wSend_b137_0 : sg_T := (118, 0, ([((2, 805, 805, 0), none), ((0, 1, 11, 1), none), ((0, 1, 2147483647, 1), none), ((0, 0, 10, 1), none), ((0, 0, 999, 1), none), ((0, 0, 33, 1), none), ((2, 839, 839, 1), none), ((0, 1, 11, 1), some (3, 1))], [(3, 7), (0, 0), (1, 1), (2, 2)], [], [(6, 5, 4)], [], [], [], [], some [(6, 5, 4)]))
def kh_wSend_b170_0 : sg_T := (184, 0, ([((2, 805, 805, 0), none), ((0, 0, 11, 1), none), ((0, 1, 2147483647, 1), none), ((0, 0, 11, 1), none), ((2, 832, 832, 1), none), ((0, 47, 47, 0), none), ((0, 0, 11, 1), none), ((0, (-2147483648), 2147483647, 1), none), ((0, (-2147483648), 2147483647, 1), none)], [(0, 0), (1, 1), (2, 2), (3, 3)], [2], [(4, 6, 8), (0, 5, 6)], [], [(900100008, 7, 2), (800007, 4, 6), (800006, 0, 5)], [], [], some [(4, 6, 8)]))
def kh_wSend_I (l : Launch) (D : va_G) (tc : Nat → ClassId) (ad : Nat → Nat) (kd : Nat → Nat × Nat) (N : Nat) (sm : Nat → Nat) (xs : List av_X) (S : fw_S) (p : Program) (e : Env) (s : State) (m : MethodId) (args : Array Value) (below : List Frame) (meth : Method) (c : Code) (sz : Nat) (k : Nat) : Prop := (∀ (α : List av_X) (lv : List (Nat × Value)) (st : List Value) (S1 : fw_S), as_in ad sm wd_fl2 xs S kh_wSend.2.2.2.2.2.1 α kh_wSend_a23.2.2.1 lv st S1 → (S1.1 829 = S.1 829 ∧ S1.1 832 = S.1 832 ∧ S1.1 839 = S.1 839 ∧ nv α 3 = (S.1 827 (S.1 805 46).toInt.toNat).toInt ∧ nv α 2 = (S.1 805 47).toInt ∧ nv α 1 = (S.1 828 (S.1 805 46).toInt.toNat).toInt) → 100000 < k → hd_WR R_wSend wd_fl2 kh_wSend kh_wSend_y l D tc ad kd N sm xs S p e s m args below meth c sz 23 lv st S1 0) ∧ (∀ (α : List av_X) (lv : List (Nat × Value)) (st : List Value) (S1 : fw_S), as_in ad sm wd_fl2 xs S kh_wSend.2.2.2.2.2.1 α kh_wSend_a26.2.2.1 lv st S1 → (0 ≤ nv α 1 ∧ nv α 1 ≤ 11 ∧ (∀ k : Nat, (k : Int) < nv α 1 → wPth S1 (nv α 1) k) ∧ S1.1 829 = S.1 829 ∧ S1.1 832 = S.1 832) → 90000 < k → hd_WR R_wSend wd_fl2 kh_wSend kh_wSend_y l D tc ad kd N sm xs S p e s m args below meth c sz 26 lv st S1 0) ∧ (∀ (α : List av_X) (lv : List (Nat × Value)) (st : List Value) (S1 : fw_S), as_in ad sm wd_fl2 xs S kh_wSend.2.2.2.2.2.1 α kh_wSend_a72.2.2.1 lv st S1 → ((∀ k : Nat, (k : Int) < nv α 1 → wPth S1 (nv α 1) k) ∧ S1.1 832 = S.1 832 ∧ (1 ≤ nv α 2 ∧ nv α 2 ≤ (S.1 832 (S.1 805 47).toInt.toNat).toInt) ∧ (∀ k : Nat, (k : Int) < nv α 3 → nv α 2 ≤ wRm S1 ((S1.1 841 k).toInt / 2))) → 50000 + (12 - nv α 3).toNat < k → hd_WR R_wSend wd_fl2 kh_wSend kh_wSend_y l D tc ad kd N sm xs S p e s m args below meth c sz 72 lv st S1 0) ∧ (∀ (α : List av_X) (lv : List (Nat × Value)) (st : List Value) (S1 : fw_S), as_in ad sm wd_fl2 xs S kh_wSend.2.2.2.2.2.1 α kh_wSend_a118.2.2.1 lv st S1 → (((∀ k : Nat, nv α 3 ≤ (k : Int) → (k : Int) < nv α 1 → wPth S1 (nv α 1) k ∧ nv α 2 ≤ wRm S1 ((S1.1 841 k).toInt / 2)) ∧ S1.1 832 = S.1 832 ∧ (1 ≤ nv α 2 ∧ nv α 2 ≤ (S.1 832 (S.1 805 47).toInt.toNat).toInt))) → 1000 + (12 - nv α 3).toNat * 2 + 1 < k → hd_WR R_wSend wd_fl2 kh_wSend kh_wSend_y l D tc ad kd N sm xs S p e s m args below meth c sz 118 lv st S1 0) ∧ (∀ (α : List av_X) (lv : List (Nat × Value)) (st : List Value) (S1 : fw_S), as_in ad sm wd_fl2 xs S kh_wSend.2.2.2.2.2.1 α kh_wSend_a137.2.2.1 lv st S1 → (((∀ k : Nat, nv α 3 ≤ (k : Int) → (k : Int) < nv α 1 → wPth S1 (nv α 1) k ∧ nv α 2 ≤ wRm S1 ((S1.1 841 k).toInt / 2)) ∧ S1.1 832 = S.1 832 ∧ (1 ≤ nv α 2 ∧ nv α 2 ≤ (S.1 832 (S.1 805 47).toInt.toNat).toInt)) ∧ nv α 3 < nv α 1 ∧ nv α 5 = (S1.1 841 (nv α 3).toNat).toInt ∧ 0 ≤ nv α 4 ∧ nv α 4 ≤ 999 ∧ nv α 4 = (S1.1 839 (nv α 5).toNat).toInt + nv α 2) → 1000 + (12 - nv α 3).toNat * 2 < k → hd_WR R_wSend wd_fl2 kh_wSend kh_wSend_y l D tc ad kd N sm xs S p e s m args below meth c sz 137 lv st S1 0) ∧ (∀ (α : List av_X) (lv : List (Nat × Value)) (st : List Value) (S1 : fw_S), as_in ad sm wd_fl2 xs S kh_wSend.2.2.2.2.2.1 α kh_wSend_a170.2.2.1 lv st S1 → (S1.1 832 = S.1 832 ∧ (1 ≤ nv α 2 ∧ nv α 2 ≤ (S.1 832 (S.1 805 47).toInt.toNat).toInt)) → 5 < k → hd_WR R_wSend wd_fl2 kh_wSend kh_wSend_y l D tc ad kd N sm xs S p e s m args below meth c sz 170 lv st S1 0) ∧ True
set_option maxHeartbeats 16000000 in
set_option maxRecDepth 8000 in
theorem kh_wSend_h23 {l : Launch} {D : va_G} {tc : Nat → ClassId} {ad : Nat → Nat} {kd : Nat → Nat × Nat} {N : Nat} {sm : Nat → Nat} {xs : List av_X} {S : fw_S} {p : Program} {e : Env} {s : State} {m : MethodId} {args : Array Value} {below : List Frame} {meth : Method} {c : Code} {sz : Nat} {lvE : List (Nat × Value)} (G : hd_C wd_ff2 wd_fl2 kh_wSend [kh_wRoom] kh_wSend_y l D tc ad kd N sm xs p s m args meth c sz) (H0 : as_in ad sm wd_fl2 xs S kh_wSend.2.2.2.2.2.1 xs (hd_0 kh_wSend) lvE [] S) {k : Nat} (ih : kh_wSend_I l D tc ad kd N sm xs S p e s m args below meth c sz k) : (∀ (α : List av_X) (lv : List (Nat × Value)) (st : List Value) (S1 : fw_S), as_in ad sm wd_fl2 xs S kh_wSend.2.2.2.2.2.1 α kh_wSend_a23.2.2.1 lv st S1 → (S1.1 829 = S.1 829 ∧ S1.1 832 = S.1 832 ∧ S1.1 839 = S.1 839 ∧ nv α 3 = (S.1 827 (S.1 805 46).toInt.toNat).toInt ∧ nv α 2 = (S.1 805 47).toInt ∧ nv α 1 = (S.1 828 (S.1 805 46).toInt.toNat).toInt) → 100000 < k + 1 → hd_WR R_wSend wd_fl2 kh_wSend kh_wSend_y l D tc ad kd N sm xs S p e s m args below meth c sz 23 lv st S1 0) := by
  have hx : xs.length = 1 := by rw [H0.2.1.1]; rfl
  have hok : wOK S := by
    have h := H0.2.2.2.2.2.2.2.2.1 504 List.mem_cons_self
    rw [wd_fl2, if_neg (by decide)] at h
    exact h
  intro α lv st S1 H hp hk
  obtain ⟨α1, hle, Hr⟩ := as_recM (pl := []) [((840, 840), (0, 11, 1)), ((841, 841), (0, 10, 1))] (by decide +kernel) H
  have hf := H.2.2.2.2.2.2.2.2.2.2.1
  have hl1 : α1.length = 4 := by rw [Hr.2.1.1]; rfl
  have hl0 : α.length = 4 := by rw [H.2.1.1]; rfl
  have hxa : al_le xs α1 := H.1.trans hle
  obtain ⟨g1, -, g3, g4, -⟩ := as_fx Hr
  have g0 : (805 ≤ nv α1 0 ∧ nv α1 0 ≤ 805) ∧ ((-2147483648) ≤ nv α1 1 ∧ nv α1 1 ≤ 2147483647) ∧ (0 ≤ nv α1 2 ∧ nv α1 2 ≤ 11) ∧ (0 ≤ nv α1 3 ∧ nv α1 3 ≤ 11) ∧ True := by
    refine ⟨by have h := (en_nv (i := 0) Hr.2.1 rfl).2; exact h, by have h := (en_nv (i := 1) Hr.2.1 rfl).2; exact h, by have h := (en_nv (i := 2) Hr.2.1 rfl).2; exact h, by have h := (en_nv (i := 3) Hr.2.1 rfl).2; exact h, trivial⟩
  have r0 : nv α1 0 = nv α 0 := nv_le hle (by omega)
  have r1 : nv α1 1 = nv α 1 := nv_le hle (by omega)
  have r2 : nv α1 2 = nv α 2 := nv_le hle (by omega)
  have r3 : nv α1 3 = nv α 3 := nv_le hle (by omega)
  refine hd_callPR (Rr := R_wWay) (Rs := [kh_wWay]) (idx := 537) G (List.forall_mem_cons.mpr ⟨kh_wWay_okP, List.forall_mem_nil _⟩) (fun Cc hCc ys hnm => by
      rcases List.mem_singleton.mp hCc with rfl
      have y1 : nv ys 1 = nv α1 3 := nm_nv hnm (i := 1) (v := 3) rfl
      have y2 : nv ys 2 = nv α1 2 := nm_nv hnm (i := 2) (v := 2) rfl
      have y3 : nv ys 3 = nv α1 1 := nm_nv hnm (i := 3) (v := 1) rfl
      obtain ⟨p1, p2, p3, p4, p5, p6⟩ := hp
      obtain ⟨a1, a2, a3, a4, -, -, n, n1, n2⟩ := hok
      refine ⟨n, n1, ?_⟩
      rw [y1, y2, y3, r1, r2, r3, p4, p5, p6]
      exact wP_eq (fun j _ => by rw [fr_row hf 806 (by decide +kernel)]) (fun j _ => by rw [p3]) ⟨a3, a4⟩ n2) (na := 4) (Bs := [kh_wSend_b23_0]) (by decide +kernel) (by decide +kernel) hl1 Hr ?_
  intro q hq β lv' st' S' H1 hRx
  simp only [List.mem_cons, List.not_mem_nil, or_false] at hq
  rcases hq with rfl
  · obtain ⟨f1, f2, f3, f4, f5⟩ := as_fx H1
    simp only [kh_wSend_b23_0, fx_env, fx_c, fx_ne, fx_hf, wl_S, Nat.zero_add, Nat.reduceAdd, Nat.reduceDiv, Nat.reduceMod, List.getElem?_cons_zero, List.getElem?_cons_succ, if_true, and_true, true_and] at f1 f2 f3 f4 f5
    have fe0 : nv β 0 = 805 := by omega
    try simp only [fe0, Int.reduceToNat] at f2 f3 f4 f5
    have s0 : nv β 0 = nv α1 0 := nv_le H1.1 (by omega)
    have s1 : nv β 1 = nv α1 1 := nv_le H1.1 (by omega)
    have s2 : nv β 2 = nv α1 2 := nv_le H1.1 (by omega)
    have s3 : nv β 3 = nv α1 3 := nv_le H1.1 (by omega)
    obtain ⟨α', Ha, hm⟩ := hd_gpM (q := kh_wSend_a26) (n := 0) (by decide +kernel) hx H1 (by decide +kernel) hxa hf
    have hfr := H1.2.2.2.2.2.2.2.2.2.2.1
    have m0 : nv α' 0 = nv β 0 := hm 0 0 rfl
    have m1 : nv α' 1 = nv β 4 := hm 1 4 rfl
    obtain ⟨Cc, hCc, ys, rr, hnm, hR, rest, hre⟩ := hRx
    rcases List.mem_singleton.mp hCc with rfl
    obtain ⟨v, v1, v2, v3, v4⟩ := hR
    have hv := hd_rv H1 (i := 4) rfl rfl rfl hre (Sum.inl.inj v1)
    have e2 := fr_row hfr 829 (by decide +kernel)
    have e3 := fr_row hfr 832 (by decide +kernel)
    obtain ⟨p1, p2, -⟩ := hp
    rw [hv] at v2 v3 v4
    refine ih.2.1 _ _ _ _ Ha ?_ ?_
    · rw [m1]
      exact ⟨v2, v3, v4, e2.trans p1, e3.trans p2⟩
    · omega
set_option maxHeartbeats 16000000 in
set_option maxRecDepth 8000 in
theorem kh_wSend_h26 {l : Launch} {D : va_G} {tc : Nat → ClassId} {ad : Nat → Nat} {kd : Nat → Nat × Nat} {N : Nat} {sm : Nat → Nat} {xs : List av_X} {S : fw_S} {p : Program} {e : Env} {s : State} {m : MethodId} {args : Array Value} {below : List Frame} {meth : Method} {c : Code} {sz : Nat} {lvE : List (Nat × Value)} (G : hd_C wd_ff2 wd_fl2 kh_wSend [kh_wRoom] kh_wSend_y l D tc ad kd N sm xs p s m args meth c sz) (H0 : as_in ad sm wd_fl2 xs S kh_wSend.2.2.2.2.2.1 xs (hd_0 kh_wSend) lvE [] S) {k : Nat} (ih : kh_wSend_I l D tc ad kd N sm xs S p e s m args below meth c sz k) : (∀ (α : List av_X) (lv : List (Nat × Value)) (st : List Value) (S1 : fw_S), as_in ad sm wd_fl2 xs S kh_wSend.2.2.2.2.2.1 α kh_wSend_a26.2.2.1 lv st S1 → (0 ≤ nv α 1 ∧ nv α 1 ≤ 11 ∧ (∀ k : Nat, (k : Int) < nv α 1 → wPth S1 (nv α 1) k) ∧ S1.1 829 = S.1 829 ∧ S1.1 832 = S.1 832) → 90000 < k + 1 → hd_WR R_wSend wd_fl2 kh_wSend kh_wSend_y l D tc ad kd N sm xs S p e s m args below meth c sz 26 lv st S1 0) := by
  have hx : xs.length = 1 := by rw [H0.2.1.1]; rfl
  have hok : wOK S := by
    have h := H0.2.2.2.2.2.2.2.2.1 504 List.mem_cons_self
    rw [wd_fl2, if_neg (by decide)] at h
    exact h
  intro α lv st S1 H hp hk
  have bp := (en_nv (i := 1) H.2.1 rfl).2
  change 0 ≤ nv α 1 ∧ nv α 1 ≤ 11 at bp
  replace H := as_clamp (i := 1) (lo := 0) (hi := 11) H rfl rfl (by exact hp.1) (by exact hp.2.1) (by decide)
  obtain ⟨α1, hle, Hr⟩ := as_recM (pl := []) [] (by decide +kernel) H
  have hf := H.2.2.2.2.2.2.2.2.2.2.1
  have hl1 : α1.length = 2 := by rw [Hr.2.1.1]; rfl
  have hl0 : α.length = 2 := by rw [H.2.1.1]; rfl
  have hxa : al_le xs α1 := H.1.trans hle
  obtain ⟨g1, -, g3, g4, -⟩ := as_fx Hr
  have g0 : (805 ≤ nv α1 0 ∧ nv α1 0 ≤ 805) ∧ (0 ≤ nv α1 1 ∧ nv α1 1 ≤ 11) ∧ True := by
    refine ⟨by have h := (en_nv (i := 0) Hr.2.1 rfl).2; exact h, by have h := (en_nv (i := 1) Hr.2.1 rfl).2; exact h, trivial⟩
  have r0 : nv α1 0 = nv α 0 := nv_le hle (by omega)
  have r1 : nv α1 1 = nv α 1 := nv_le hle (by omega)
  refine hd_segMR G (na := 2) (fuel := 600) (first := true) (Bs := [kh_wSend_b26_0, kh_wSend_b26_1]) (by decide +kernel) hl1 Hr ?_
  intro q hq β lv' st' S' H1
  simp only [List.mem_cons, List.not_mem_nil, or_false] at hq
  rcases hq with rfl | rfl
  · obtain ⟨f1, f2, f3, f4, f5⟩ := as_fx H1
    simp only [kh_wSend_b26_0, fx_env, fx_c, fx_ne, fx_hf, wl_S, Nat.zero_add, Nat.reduceAdd, Nat.reduceDiv, Nat.reduceMod, List.getElem?_cons_zero, List.getElem?_cons_succ, if_true, and_true, true_and] at f1 f2 f3 f4 f5
    have fe0 : nv β 0 = 805 := by omega
    have fe2 : nv β 2 = 829 := by omega
    have fe3 : nv β 3 = 46 := by omega
    have fe6 : nv β 6 = 832 := by omega
    have fe7 : nv β 7 = 47 := by omega
    have fe10 : nv β 10 = 832 := by omega
    have fe11 : nv β 11 = 47 := by omega
    have fe12 : nv β 12 = 0 := by omega
    try simp only [fe0, fe2, fe3, fe6, fe7, fe10, fe11, fe12, Int.reduceToNat] at f2 f3 f4 f5
    have s0 : nv β 0 = nv α1 0 := nv_le H1.1 (by omega)
    have s1 : nv β 1 = nv α1 1 := nv_le H1.1 (by omega)
    obtain ⟨c0, c1, c2, c3, c4⟩ := f2
    obtain ⟨α', Ha, hm⟩ := hd_gpM (q := kh_wSend_a72) (n := 0) (by decide +kernel) hx H1 (by decide +kernel) hxa hf
    have hfr := H1.2.2.2.2.2.2.2.2.2.2.1
    have m0 : nv α' 0 = nv β 0 := hm 0 0 rfl
    have m1 : nv α' 1 = nv β 1 := hm 1 1 rfl
    have m2 : nv α' 2 = nv β 9 := hm 2 9 rfl
    have m3 : nv α' 3 = nv β 12 := hm 3 12 rfl
    subst S'
    have o1 := old_0 c1 rfl
    have o2 := old_i c2 (en_nv (i := 8) H1.2.1 rfl).1
    have o3 := old_0 c3 rfl
    have o4 := old_i c4 (en_nv (i := 4) H1.2.1 rfl).1
    obtain ⟨p1, p2, p3, p4, p5⟩ := hp
    have e5 : S1.1 805 = S.1 805 := fr_row hf 805 (by decide +kernel)
    obtain ⟨-, -, -, -, w1, w2, -⟩ := hok
    rw [e5] at o4 o2
    rw [p4] at o3
    rw [p5] at o1
    rw [o4] at w1
    rw [o2] at w2
    refine ih.2.2.1 _ _ _ _ Ha ?_ ?_
    · rw [m1, m2, m3, s1, r1]
      refine ⟨p3, p5, ⟨by omega, ?_⟩, fun k' hk' => by omega⟩
      rw [o2]
      omega
    · omega
  · obtain ⟨f1, f2, f3, f4, f5⟩ := as_fx H1
    simp only [kh_wSend_b26_1, fx_env, fx_c, fx_ne, fx_hf, wl_S, Nat.zero_add, Nat.reduceAdd, Nat.reduceDiv, Nat.reduceMod, List.getElem?_cons_zero, List.getElem?_cons_succ, if_true, and_true, true_and] at f1 f2 f3 f4 f5
    have fe0 : nv β 0 = 805 := by omega
    have fe2 : nv β 2 = 829 := by omega
    have fe3 : nv β 3 = 46 := by omega
    have fe6 : nv β 6 = 832 := by omega
    have fe7 : nv β 7 = 47 := by omega
    have fe10 : nv β 10 = 829 := by omega
    have fe11 : nv β 11 = 46 := by omega
    have fe12 : nv β 12 = 0 := by omega
    try simp only [fe0, fe2, fe3, fe6, fe7, fe10, fe11, fe12, Int.reduceToNat] at f2 f3 f4 f5
    have s0 : nv β 0 = nv α1 0 := nv_le H1.1 (by omega)
    have s1 : nv β 1 = nv α1 1 := nv_le H1.1 (by omega)
    obtain ⟨c0, c1, c2, c3, c4⟩ := f2
    obtain ⟨α', Ha, hm⟩ := hd_gpM (q := kh_wSend_a72) (n := 0) (by decide +kernel) hx H1 (by decide +kernel) hxa hf
    have hfr := H1.2.2.2.2.2.2.2.2.2.2.1
    have m0 : nv α' 0 = nv β 0 := hm 0 0 rfl
    have m1 : nv α' 1 = nv β 1 := hm 1 1 rfl
    have m2 : nv α' 2 = nv β 5 := hm 2 5 rfl
    have m3 : nv α' 3 = nv β 12 := hm 3 12 rfl
    subst S'
    have o1 := old_0 c1 rfl
    have o2 := old_i c2 (en_nv (i := 8) H1.2.1 rfl).1
    have o3 := old_0 c3 rfl
    have o4 := old_i c4 (en_nv (i := 4) H1.2.1 rfl).1
    obtain ⟨p1, p2, p3, p4, p5⟩ := hp
    have e5 : S1.1 805 = S.1 805 := fr_row hf 805 (by decide +kernel)
    obtain ⟨-, -, -, -, w1, w2, -⟩ := hok
    rw [e5] at o4 o2
    rw [p4] at o3
    rw [p5] at o1
    rw [o4] at w1
    rw [o2] at w2
    refine ih.2.2.1 _ _ _ _ Ha ?_ ?_
    · rw [m1, m2, m3, s1, r1]
      refine ⟨p3, p5, ⟨by omega, ?_⟩, fun k' hk' => by omega⟩
      rw [o2]
      omega
    · omega
set_option maxHeartbeats 16000000 in
set_option maxRecDepth 8000 in
theorem kh_wSend_h72 {l : Launch} {D : va_G} {tc : Nat → ClassId} {ad : Nat → Nat} {kd : Nat → Nat × Nat} {N : Nat} {sm : Nat → Nat} {xs : List av_X} {S : fw_S} {p : Program} {e : Env} {s : State} {m : MethodId} {args : Array Value} {below : List Frame} {meth : Method} {c : Code} {sz : Nat} {lvE : List (Nat × Value)} (G : hd_C wd_ff2 wd_fl2 kh_wSend [kh_wRoom] kh_wSend_y l D tc ad kd N sm xs p s m args meth c sz) (H0 : as_in ad sm wd_fl2 xs S kh_wSend.2.2.2.2.2.1 xs (hd_0 kh_wSend) lvE [] S) {k : Nat} (ih : kh_wSend_I l D tc ad kd N sm xs S p e s m args below meth c sz k) : (∀ (α : List av_X) (lv : List (Nat × Value)) (st : List Value) (S1 : fw_S), as_in ad sm wd_fl2 xs S kh_wSend.2.2.2.2.2.1 α kh_wSend_a72.2.2.1 lv st S1 → ((∀ k : Nat, (k : Int) < nv α 1 → wPth S1 (nv α 1) k) ∧ S1.1 832 = S.1 832 ∧ (1 ≤ nv α 2 ∧ nv α 2 ≤ (S.1 832 (S.1 805 47).toInt.toNat).toInt) ∧ (∀ k : Nat, (k : Int) < nv α 3 → nv α 2 ≤ wRm S1 ((S1.1 841 k).toInt / 2))) → 50000 + (12 - nv α 3).toNat < k + 1 → hd_WR R_wSend wd_fl2 kh_wSend kh_wSend_y l D tc ad kd N sm xs S p e s m args below meth c sz 72 lv st S1 0) := by
  have hx : xs.length = 1 := by rw [H0.2.1.1]; rfl
  have hok : wOK S := by
    have h := H0.2.2.2.2.2.2.2.2.1 504 List.mem_cons_self
    rw [wd_fl2, if_neg (by decide)] at h
    exact h
  intro α lv st S1 H hp hk
  have bp := (en_nv (i := 2) H.2.1 rfl).2
  change (-2147483648) ≤ nv α 2 ∧ nv α 2 ≤ 2147483647 at bp
  replace H := as_clamp (i := 2) (lo := 1) (hi := 2147483647) H rfl rfl (by exact hp.2.2.1.1) (by omega) (by decide)
  obtain ⟨α1, hle, Hr⟩ := as_recM (pl := []) [] (by decide +kernel) H
  have hf := H.2.2.2.2.2.2.2.2.2.2.1
  have hl1 : α1.length = 4 := by rw [Hr.2.1.1]; rfl
  have hl0 : α.length = 4 := by rw [H.2.1.1]; rfl
  have hxa : al_le xs α1 := H.1.trans hle
  obtain ⟨g1, -, g3, g4, -⟩ := as_fx Hr
  have g0 : (805 ≤ nv α1 0 ∧ nv α1 0 ≤ 805) ∧ (0 ≤ nv α1 1 ∧ nv α1 1 ≤ 11) ∧ (1 ≤ nv α1 2 ∧ nv α1 2 ≤ 2147483647) ∧ (0 ≤ nv α1 3 ∧ nv α1 3 ≤ 11) ∧ True := by
    refine ⟨by have h := (en_nv (i := 0) Hr.2.1 rfl).2; exact h, by have h := (en_nv (i := 1) Hr.2.1 rfl).2; exact h, by have h := (en_nv (i := 2) Hr.2.1 rfl).2; exact h, by have h := (en_nv (i := 3) Hr.2.1 rfl).2; exact h, trivial⟩
  have r0 : nv α1 0 = nv α 0 := nv_le hle (by omega)
  have r1 : nv α1 1 = nv α 1 := nv_le hle (by omega)
  have r2 : nv α1 2 = nv α 2 := nv_le hle (by omega)
  have r3 : nv α1 3 = nv α 3 := nv_le hle (by omega)
  refine hd_segMR G (na := 4) (fuel := 600) (first := true) (Bs := [kh_wSend_b72_0, kh_wSend_b72_1, kh_wSend_b72_2]) (by decide +kernel) hl1 Hr ?_
  intro q hq β lv' st' S' H1
  simp only [List.mem_cons, List.not_mem_nil, or_false] at hq
  rcases hq with rfl | rfl | rfl
  · obtain ⟨f1, f2, f3, f4, f5⟩ := as_fx H1
    simp only [kh_wSend_b72_0, fx_env, fx_c, fx_ne, fx_hf, wl_S, Nat.zero_add, Nat.reduceAdd, Nat.reduceDiv, Nat.reduceMod, List.getElem?_cons_zero, List.getElem?_cons_succ, if_true, and_true, true_and] at f1 f2 f3 f4 f5
    have fe0 : nv β 0 = 805 := by omega
    have fe4 : nv β 4 = 0 := by omega
    try simp only [fe0, fe4, Int.reduceToNat] at f2 f3 f4 f5
    have s0 : nv β 0 = nv α1 0 := nv_le H1.1 (by omega)
    have s1 : nv β 1 = nv α1 1 := nv_le H1.1 (by omega)
    have s2 : nv β 2 = nv α1 2 := nv_le H1.1 (by omega)
    have s3 : nv β 3 = nv α1 3 := nv_le H1.1 (by omega)
    have c0 := f2
    obtain ⟨α', Ha, hm⟩ := hd_gpM (q := kh_wSend_a118) (n := 0) (by decide +kernel) hx H1 (by decide +kernel) hxa hf
    have hfr := H1.2.2.2.2.2.2.2.2.2.2.1
    have m0 : nv α' 0 = nv β 0 := hm 0 0 rfl
    have m1 : nv α' 1 = nv β 1 := hm 1 1 rfl
    have m2 : nv α' 2 = nv β 2 := hm 2 2 rfl
    have m3 : nv α' 3 = nv β 4 := hm 3 4 rfl
    subst S'
    obtain ⟨p1, p2, p3, p4⟩ := hp
    refine ih.2.2.2.1 _ _ _ _ Ha ?_ ?_
    · rw [m1, m2, m3, s1, r1, s2, r2]
      exact ⟨fun k' h1 h2 => ⟨p1 k' h2, p4 k' (by omega)⟩, p2, p3⟩
    · omega
  · obtain ⟨f1, f2, f3, f4, f5⟩ := as_fx H1
    simp only [kh_wSend_b72_1, fx_env, fx_c, fx_ne, fx_hf, wl_S, Nat.zero_add, Nat.reduceAdd, Nat.reduceDiv, Nat.reduceMod, List.getElem?_cons_zero, List.getElem?_cons_succ, if_true, and_true, true_and] at f1 f2 f3 f4 f5
    have fe0 : nv β 0 = 805 := by omega
    have fe4 : nv β 4 = 841 := by omega
    have fe6 : nv β 6 = 2 := by omega
    try simp only [fe0, fe4, fe6, Int.reduceToNat] at f2 f3 f4 f5
    have s0 : nv β 0 = nv α1 0 := nv_le H1.1 (by omega)
    have s1 : nv β 1 = nv α1 1 := nv_le H1.1 (by omega)
    have s2 : nv β 2 = nv α1 2 := nv_le H1.1 (by omega)
    have s3 : nv β 3 = nv α1 3 := nv_le H1.1 (by omega)
    obtain ⟨c0, c1, c2, c3, c4⟩ := f2
    obtain ⟨α', Ha, hm⟩ := hd_gpM (q := kh_wSend_a72) (n := 0) (by decide +kernel) hx H1 (by decide +kernel) hxa hf
    have hfr := H1.2.2.2.2.2.2.2.2.2.2.1
    have m0 : nv α' 0 = nv β 0 := hm 0 0 rfl
    have m1 : nv α' 1 = nv β 1 := hm 1 1 rfl
    have m2 : nv α' 2 = nv β 2 := hm 2 2 rfl
    have m3 : nv α' 3 = nv β 9 := hm 3 9 rfl
    subst S'
    have o3 := old_0 c3 rfl
    have d1 := c1
    simp only [wd_fl2, if_neg (show ¬ (wd_base1 1022 = true) by decide)] at d1
    have hkc : (((nv β 3).toNat : Nat) : Int) = nv β 3 := Int.toNat_of_nonneg (by omega)
    obtain ⟨p1, p2, p3, p4⟩ := hp
    obtain ⟨-, -, q3, -⟩ := p1 (nv β 3).toNat (by omega)
    rw [o3] at q3
    rw [show nv β 7 = nv β 5 / 2 by omega] at d1
    refine ih.2.2.1 _ _ _ _ Ha ?_ ?_
    · rw [m1, m2, m3, s1, r1]
      refine ⟨p1, p2, ⟨by omega, by omega⟩, fun k' hk' => ?_⟩
      by_cases e : k' = (nv β 3).toNat
      · rw [e, o3]
        omega
      · have := p4 k' (by omega)
        omega
    · omega
  · obtain ⟨f1, f2, f3, f4, f5⟩ := as_fx H1
    simp only [kh_wSend_b72_2, fx_env, fx_c, fx_ne, fx_hf, wl_S, Nat.zero_add, Nat.reduceAdd, Nat.reduceDiv, Nat.reduceMod, List.getElem?_cons_zero, List.getElem?_cons_succ, if_true, and_true, true_and] at f1 f2 f3 f4 f5
    have fe0 : nv β 0 = 805 := by omega
    have fe4 : nv β 4 = 841 := by omega
    have fe6 : nv β 6 = 2 := by omega
    have fe9 : nv β 9 = 841 := by omega
    have fe10 : nv β 10 = 2 := by omega
    try simp only [fe0, fe4, fe6, fe9, fe10, Int.reduceToNat] at f2 f3 f4 f5
    have s0 : nv β 0 = nv α1 0 := nv_le H1.1 (by omega)
    have s1 : nv β 1 = nv α1 1 := nv_le H1.1 (by omega)
    have s2 : nv β 2 = nv α1 2 := nv_le H1.1 (by omega)
    have s3 : nv β 3 = nv α1 3 := nv_le H1.1 (by omega)
    obtain ⟨c0, c1, c2, c3, c4, c5, c6⟩ := f2
    obtain ⟨α', Ha, hm⟩ := hd_gpM (q := kh_wSend_a72) (n := 0) (by decide +kernel) hx H1 (by decide +kernel) hxa hf
    have hfr := H1.2.2.2.2.2.2.2.2.2.2.1
    have m0 : nv α' 0 = nv β 0 := hm 0 0 rfl
    have m1 : nv α' 1 = nv β 1 := hm 1 1 rfl
    have m2 : nv α' 2 = nv β 12 := hm 2 12 rfl
    have m3 : nv α' 3 = nv β 13 := hm 3 13 rfl
    subst S'
    have o5 := old_0 c5 rfl
    have d0 := c0
    simp only [wd_fl2, if_neg (show ¬ (wd_base1 1022 = true) by decide)] at d0
    have d3 := c3
    simp only [wd_fl2, if_neg (show ¬ (wd_base1 1022 = true) by decide)] at d3
    have hkc : (((nv β 3).toNat : Nat) : Int) = nv β 3 := Int.toNat_of_nonneg (by omega)
    obtain ⟨p1, p2, p3, p4⟩ := hp
    obtain ⟨-, -, q3, -⟩ := p1 (nv β 3).toNat (by omega)
    rw [o5] at q3
    rw [show nv β 11 = nv β 5 / 2 by omega] at d0
    rw [show nv β 7 = nv β 5 / 2 by omega] at d3
    refine ih.2.2.1 _ _ _ _ Ha ?_ ?_
    · rw [m1, m2, m3, s1, r1]
      refine ⟨p1, p2, ⟨by omega, by omega⟩, fun k' hk' => ?_⟩
      by_cases e : k' = (nv β 3).toNat
      · rw [e, o5]
        omega
      · have := p4 k' (by omega)
        omega
    · omega
set_option maxHeartbeats 16000000 in
set_option maxRecDepth 8000 in
theorem kh_wSend_h118 {l : Launch} {D : va_G} {tc : Nat → ClassId} {ad : Nat → Nat} {kd : Nat → Nat × Nat} {N : Nat} {sm : Nat → Nat} {xs : List av_X} {S : fw_S} {p : Program} {e : Env} {s : State} {m : MethodId} {args : Array Value} {below : List Frame} {meth : Method} {c : Code} {sz : Nat} {lvE : List (Nat × Value)} (G : hd_C wd_ff2 wd_fl2 kh_wSend [kh_wRoom] kh_wSend_y l D tc ad kd N sm xs p s m args meth c sz) (H0 : as_in ad sm wd_fl2 xs S kh_wSend.2.2.2.2.2.1 xs (hd_0 kh_wSend) lvE [] S) {k : Nat} (ih : kh_wSend_I l D tc ad kd N sm xs S p e s m args below meth c sz k) : (∀ (α : List av_X) (lv : List (Nat × Value)) (st : List Value) (S1 : fw_S), as_in ad sm wd_fl2 xs S kh_wSend.2.2.2.2.2.1 α kh_wSend_a118.2.2.1 lv st S1 → (((∀ k : Nat, nv α 3 ≤ (k : Int) → (k : Int) < nv α 1 → wPth S1 (nv α 1) k ∧ nv α 2 ≤ wRm S1 ((S1.1 841 k).toInt / 2)) ∧ S1.1 832 = S.1 832 ∧ (1 ≤ nv α 2 ∧ nv α 2 ≤ (S.1 832 (S.1 805 47).toInt.toNat).toInt))) → 1000 + (12 - nv α 3).toNat * 2 + 1 < k + 1 → hd_WR R_wSend wd_fl2 kh_wSend kh_wSend_y l D tc ad kd N sm xs S p e s m args below meth c sz 118 lv st S1 0) := by
  have hx : xs.length = 1 := by rw [H0.2.1.1]; rfl
  have hok : wOK S := by
    have h := H0.2.2.2.2.2.2.2.2.1 504 List.mem_cons_self
    rw [wd_fl2, if_neg (by decide)] at h
    exact h
  intro α lv st S1 H hp hk
  have bp := (en_nv (i := 2) H.2.1 rfl).2
  change 1 ≤ nv α 2 ∧ nv α 2 ≤ 2147483647 at bp
  replace H := as_clamp (i := 2) (lo := 1) (hi := 2147483647) H rfl rfl (by exact hp.2.2.1) (by omega) (by decide)
  obtain ⟨α1, hle, Hr⟩ := as_recM (pl := []) [((829, 829), (0, 6, 1)), ((830, 830), (0, 6, 1))] (by decide +kernel) H
  have hf := H.2.2.2.2.2.2.2.2.2.2.1
  have hl1 : α1.length = 4 := by rw [Hr.2.1.1]; rfl
  have hl0 : α.length = 4 := by rw [H.2.1.1]; rfl
  have hxa : al_le xs α1 := H.1.trans hle
  obtain ⟨g1, -, g3, g4, -⟩ := as_fx Hr
  have g0 : (805 ≤ nv α1 0 ∧ nv α1 0 ≤ 805) ∧ (0 ≤ nv α1 1 ∧ nv α1 1 ≤ 11) ∧ (1 ≤ nv α1 2 ∧ nv α1 2 ≤ 2147483647) ∧ (0 ≤ nv α1 3 ∧ nv α1 3 ≤ 11) ∧ True := by
    refine ⟨by have h := (en_nv (i := 0) Hr.2.1 rfl).2; exact h, by have h := (en_nv (i := 1) Hr.2.1 rfl).2; exact h, by have h := (en_nv (i := 2) Hr.2.1 rfl).2; exact h, by have h := (en_nv (i := 3) Hr.2.1 rfl).2; exact h, trivial⟩
  have r0 : nv α1 0 = nv α 0 := nv_le hle (by omega)
  have r1 : nv α1 1 = nv α 1 := nv_le hle (by omega)
  have r2 : nv α1 2 = nv α 2 := nv_le hle (by omega)
  have r3 : nv α1 3 = nv α 3 := nv_le hle (by omega)
  refine hd_segMR G (na := 4) (fuel := 600) (first := true) (Bs := [kh_wSend_b118_0, kh_wSend_b118_1]) (by decide +kernel) hl1 Hr ?_
  intro q hq β lv' st' S' H1
  simp only [List.mem_cons, List.not_mem_nil, or_false] at hq
  rcases hq with rfl | rfl
  · obtain ⟨f1, f2, f3, f4, f5⟩ := as_fx H1
    simp only [kh_wSend_b118_0, fx_env, fx_c, fx_ne, fx_hf, wl_S, Nat.zero_add, Nat.reduceAdd, Nat.reduceDiv, Nat.reduceMod, List.getElem?_cons_zero, List.getElem?_cons_succ, if_true, and_true, true_and] at f1 f2 f3 f4 f5
    have fe0 : nv β 0 = 805 := by omega
    have fe4 : nv β 4 = 829 := by omega
    have fe5 : nv β 5 = 46 := by omega
    have fe9 : nv β 9 = 830 := by omega
    have fe10 : nv β 10 = 46 := by omega
    try simp only [fe0, fe4, fe5, fe9, fe10, Int.reduceToNat] at f2 f3 f4 f5
    have s0 : nv β 0 = nv α1 0 := nv_le H1.1 (by omega)
    have s1 : nv β 1 = nv α1 1 := nv_le H1.1 (by omega)
    have s2 : nv β 2 = nv α1 2 := nv_le H1.1 (by omega)
    have s3 : nv β 3 = nv α1 3 := nv_le H1.1 (by omega)
    obtain ⟨c0, c1, c2, c3, c4⟩ := f2
    obtain ⟨α', Ha, hm⟩ := hd_gpM (q := kh_wSend_a170) (n := 0) (by decide +kernel) hx H1 (by decide +kernel) hxa hf
    have hfr := H1.2.2.2.2.2.2.2.2.2.2.1
    have m0 : nv α' 0 = nv β 0 := hm 0 0 rfl
    have m1 : nv α' 1 = nv β 1 := hm 1 1 rfl
    have m2 : nv α' 2 = nv β 2 := hm 2 2 rfl
    have m3 : nv α' 3 = nv β 3 := hm 3 3 rfl
    subst S'

    refine ih.2.2.2.2.2.1 _ _ _ _ Ha ?_ ?_
    · rw [m2, s2, r2]
      refine ⟨?_, hp.2.2⟩
      exact ((fw_i_ne (by decide)).trans (fw_i_ne (by decide))).trans hp.2.1
    · omega
  · obtain ⟨f1, f2, f3, f4, f5⟩ := as_fx H1
    simp only [kh_wSend_b118_1, fx_env, fx_c, fx_ne, fx_hf, wl_S, Nat.zero_add, Nat.reduceAdd, Nat.reduceDiv, Nat.reduceMod, List.getElem?_cons_zero, List.getElem?_cons_succ, if_true, and_true, true_and] at f1 f2 f3 f4 f5
    have fe0 : nv β 0 = 805 := by omega
    have fe4 : nv β 4 = 839 := by omega
    have fe5 : nv β 5 = 841 := by omega
    try simp only [fe0, fe4, fe5, Int.reduceToNat] at f2 f3 f4 f5
    have s0 : nv β 0 = nv α1 0 := nv_le H1.1 (by omega)
    have s1 : nv β 1 = nv α1 1 := nv_le H1.1 (by omega)
    have s2 : nv β 2 = nv α1 2 := nv_le H1.1 (by omega)
    have s3 : nv β 3 = nv α1 3 := nv_le H1.1 (by omega)
    obtain ⟨c0, c1, c2, c3⟩ := f2
    obtain ⟨α', Ha, hm⟩ := hd_gpM (q := kh_wSend_a137) (n := 0) (by decide +kernel) hx H1 (by decide +kernel) hxa hf
    have hfr := H1.2.2.2.2.2.2.2.2.2.2.1
    have m0 : nv α' 0 = nv β 0 := hm 0 0 rfl
    have m1 : nv α' 1 = nv β 1 := hm 1 1 rfl
    have m2 : nv α' 2 = nv β 2 := hm 2 2 rfl
    have m3 : nv α' 3 = nv β 3 := hm 3 3 rfl
    have m4 : nv α' 4 = nv β 8 := hm 4 8 rfl
    have m5 : nv α' 5 = nv β 6 := hm 5 6 rfl
    have m6 : nv α' 6 = nv β 4 := hm 6 4 rfl
    subst S'
    have o1 := old_0 c1 rfl
    have o2 := old_0 c2 rfl
    have hkc : (((nv β 3).toNat : Nat) : Int) = nv β 3 := Int.toNat_of_nonneg (by omega)
    obtain ⟨p1, p2, p3⟩ := hp
    obtain ⟨⟨q1, q2, q3, q4⟩, q5⟩ := p1 (nv β 3).toNat (by omega) (by omega)
    rw [o2] at q1 q2 q5
    have hb := bnd_999 (t := nv β 6 / 2) (q_rg_in (by decide +kernel) H) (by omega)
    have hal := fun j hj => rg_bd (q_rg_in (q := ((839, 839), (0, 33, 1), (0, 0, 999, 1))) (by decide +kernel) H) (j := j) hj
    have h1 := hal (2 * (nv β 6 / 2)).toNat (by omega)
    have h2 := hal (2 * (nv β 6 / 2) + 1).toNat (by omega)
    unfold wRm at q5
    have hsum : nv β 7 + nv α 2 ≤ 999 ∧ 0 ≤ nv β 7 := by
      have e : nv β 6 = 2 * (nv β 6 / 2) ∨ nv β 6 = 2 * (nv β 6 / 2) + 1 := by omega
      rcases e with e | e
      · rw [← e] at h1 h2 q5
        rw [o1] at h1 q5
        omega
      · rw [← e] at h2 q5
        rw [o1] at h2 q5
        omega
    refine ih.2.2.2.2.1 _ _ _ _ Ha ?_ ?_
    · rw [m1, m2, m3, m4, m5, s1, r1, s2, r2, s3, r3]
      refine ⟨⟨p1, p2, p3⟩, by omega, ?_, ?_, ?_, ?_⟩
      · rw [← r3, ← s3]; exact o2.symm
      · omega
      · omega
      · rw [o1]; omega
    · omega
set_option maxHeartbeats 16000000 in
set_option maxRecDepth 8000 in
theorem kh_wSend_h137 {l : Launch} {D : va_G} {tc : Nat → ClassId} {ad : Nat → Nat} {kd : Nat → Nat × Nat} {N : Nat} {sm : Nat → Nat} {xs : List av_X} {S : fw_S} {p : Program} {e : Env} {s : State} {m : MethodId} {args : Array Value} {below : List Frame} {meth : Method} {c : Code} {sz : Nat} {lvE : List (Nat × Value)} (G : hd_C wd_ff2 wd_fl2 kh_wSend [kh_wRoom] kh_wSend_y l D tc ad kd N sm xs p s m args meth c sz) (H0 : as_in ad sm wd_fl2 xs S kh_wSend.2.2.2.2.2.1 xs (hd_0 kh_wSend) lvE [] S) {k : Nat} (ih : kh_wSend_I l D tc ad kd N sm xs S p e s m args below meth c sz k) : (∀ (α : List av_X) (lv : List (Nat × Value)) (st : List Value) (S1 : fw_S), as_in ad sm wd_fl2 xs S kh_wSend.2.2.2.2.2.1 α kh_wSend_a137.2.2.1 lv st S1 → (((∀ k : Nat, nv α 3 ≤ (k : Int) → (k : Int) < nv α 1 → wPth S1 (nv α 1) k ∧ nv α 2 ≤ wRm S1 ((S1.1 841 k).toInt / 2)) ∧ S1.1 832 = S.1 832 ∧ (1 ≤ nv α 2 ∧ nv α 2 ≤ (S.1 832 (S.1 805 47).toInt.toNat).toInt)) ∧ nv α 3 < nv α 1 ∧ nv α 5 = (S1.1 841 (nv α 3).toNat).toInt ∧ 0 ≤ nv α 4 ∧ nv α 4 ≤ 999 ∧ nv α 4 = (S1.1 839 (nv α 5).toNat).toInt + nv α 2) → 1000 + (12 - nv α 3).toNat * 2 < k + 1 → hd_WR R_wSend wd_fl2 kh_wSend kh_wSend_y l D tc ad kd N sm xs S p e s m args below meth c sz 137 lv st S1 0) := by
  have hx : xs.length = 1 := by rw [H0.2.1.1]; rfl
  have hok : wOK S := by
    have h := H0.2.2.2.2.2.2.2.2.1 504 List.mem_cons_self
    rw [wd_fl2, if_neg (by decide)] at h
    exact h
  intro α lv st S1 H hp hk
  have bp := (en_nv (i := 4) H.2.1 rfl).2
  change (-2147483648) ≤ nv α 4 ∧ nv α 4 ≤ 2147483647 at bp
  replace H := as_clamp (i := 4) (lo := 0) (hi := 999) H rfl rfl (by exact hp.2.2.2.1) (by exact hp.2.2.2.2.1) (by decide)
  obtain ⟨α1, hle, Hr⟩ := as_recM (pl := []) [((839, 839), (0, 33, 1))] (by decide +kernel) H
  have hf := H.2.2.2.2.2.2.2.2.2.2.1
  have hl1 : α1.length = 7 := by rw [Hr.2.1.1]; rfl
  have hl0 : α.length = 7 := by rw [H.2.1.1]; rfl
  have hxa : al_le xs α1 := H.1.trans hle
  obtain ⟨g1, -, g3, g4, -⟩ := as_fx Hr
  have g0 : (805 ≤ nv α1 0 ∧ nv α1 0 ≤ 805) ∧ (1 ≤ nv α1 1 ∧ nv α1 1 ≤ 11) ∧ (1 ≤ nv α1 2 ∧ nv α1 2 ≤ 2147483647) ∧ (0 ≤ nv α1 3 ∧ nv α1 3 ≤ 10) ∧ (0 ≤ nv α1 4 ∧ nv α1 4 ≤ 999) ∧ (0 ≤ nv α1 5 ∧ nv α1 5 ≤ 33) ∧ (839 ≤ nv α1 6 ∧ nv α1 6 ≤ 839) ∧ True := by
    refine ⟨by have h := (en_nv (i := 0) Hr.2.1 rfl).2; exact h, by have h := (en_nv (i := 1) Hr.2.1 rfl).2; exact h, by have h := (en_nv (i := 2) Hr.2.1 rfl).2; exact h, by have h := (en_nv (i := 3) Hr.2.1 rfl).2; exact h, by have h := (en_nv (i := 4) Hr.2.1 rfl).2; exact h, by have h := (en_nv (i := 5) Hr.2.1 rfl).2; exact h, by have h := (en_nv (i := 6) Hr.2.1 rfl).2; exact h, trivial⟩
  have r0 : nv α1 0 = nv α 0 := nv_le hle (by omega)
  have r1 : nv α1 1 = nv α 1 := nv_le hle (by omega)
  have r2 : nv α1 2 = nv α 2 := nv_le hle (by omega)
  have r3 : nv α1 3 = nv α 3 := nv_le hle (by omega)
  have r4 : nv α1 4 = nv α 4 := nv_le hle (by omega)
  have r5 : nv α1 5 = nv α 5 := nv_le hle (by omega)
  have r6 : nv α1 6 = nv α 6 := nv_le hle (by omega)
  refine hd_segMR G (na := 7) (fuel := 600) (first := true) (Bs := [kh_wSend_b137_0]) (by decide +kernel) hl1 Hr ?_
  intro q hq β lv' st' S' H1
  simp only [List.mem_cons, List.not_mem_nil, or_false] at hq
  rcases hq with rfl
  · obtain ⟨f1, f2, f3, f4, f5⟩ := as_fx H1
    simp only [kh_wSend_b137_0, fx_env, fx_c, fx_ne, fx_hf, wl_S, Nat.zero_add, Nat.reduceAdd, Nat.reduceDiv, Nat.reduceMod, List.getElem?_cons_zero, List.getElem?_cons_succ, if_true, and_true, true_and] at f1 f2 f3 f4 f5
    have fe0 : nv β 0 = 805 := by omega
    have fe6 : nv β 6 = 839 := by omega
    try simp only [fe0, fe6, Int.reduceToNat] at f2 f3 f4 f5
    have s0 : nv β 0 = nv α1 0 := nv_le H1.1 (by omega)
    have s1 : nv β 1 = nv α1 1 := nv_le H1.1 (by omega)
    have s2 : nv β 2 = nv α1 2 := nv_le H1.1 (by omega)
    have s3 : nv β 3 = nv α1 3 := nv_le H1.1 (by omega)
    have s4 : nv β 4 = nv α1 4 := nv_le H1.1 (by omega)
    have s5 : nv β 5 = nv α1 5 := nv_le H1.1 (by omega)
    have s6 : nv β 6 = nv α1 6 := nv_le H1.1 (by omega)
    obtain ⟨α', Ha, hm⟩ := hd_gpM (q := kh_wSend_a118) (n := 0) (by decide +kernel) hx H1 (by decide +kernel) hxa hf
    have hfr := H1.2.2.2.2.2.2.2.2.2.2.1
    have m0 : nv α' 0 = nv β 0 := hm 0 0 rfl
    have m1 : nv α' 1 = nv β 1 := hm 1 1 rfl
    have m2 : nv α' 2 = nv β 2 := hm 2 2 rfl
    have m3 : nv α' 3 = nv β 7 := hm 3 7 rfl
    subst S'
    obtain ⟨⟨p1, p2, p3⟩, p4, p5, p6, p7, p8⟩ := hp
    have e0 : (fw_i S1 839 (nv β 5).toNat (Int32.ofInt (nv β 4))).1 840 = S1.1 840 := fw_i_ne (by decide)
    have e6 : (fw_i S1 839 (nv β 5).toNat (Int32.ofInt (nv β 4))).1 806 = S1.1 806 := fw_i_ne (by decide)
    have e1 : (fw_i S1 839 (nv β 5).toNat (Int32.ofInt (nv β 4))).1 841 = S1.1 841 := fw_i_ne (by decide)
    have e2 : (fw_i S1 839 (nv β 5).toNat (Int32.ofInt (nv β 4))).1 832 = S1.1 832 := fw_i_ne (by decide)
    have hkc : (((nv α 3).toNat : Nat) : Int) = nv α 3 := Int.toNat_of_nonneg (by omega)
    have c0 := (p1 (nv α 3).toNat (by omega) (by omega)).1.2.2.2
    rw [← p5] at c0
    refine ih.2.2.2.1 _ _ _ _ Ha ?_ ?_
    · rw [m1, m2, m3, s1, r1, s2, r2, e2]
      refine ⟨fun k' h1 h2 => ?_, p2, p3⟩
      obtain ⟨⟨q1, q2, q3, q4⟩, q5⟩ := p1 k' (by omega) h2
      have hne : (S1.1 841 k').toInt / 2 ≠ nv α 5 / 2 := by
        intro e
        rw [e] at q4
        omega
      have eR : wRm (fw_i S1 839 (nv β 5).toNat (Int32.ofInt (nv β 4))) ((S1.1 841 k').toInt / 2) = wRm S1 ((S1.1 841 k').toInt / 2) := by
        unfold wRm lkv
        rw [e6, fw_i_row, if_neg (by omega), fw_i_row, if_neg (by omega)]
      unfold wPth
      rw [e0, e1, eR]
      exact ⟨⟨q1, q2, q3, q4⟩, q5⟩
    · omega
set_option maxHeartbeats 16000000 in
set_option maxRecDepth 8000 in
theorem kh_wSend_h170 {l : Launch} {D : va_G} {tc : Nat → ClassId} {ad : Nat → Nat} {kd : Nat → Nat × Nat} {N : Nat} {sm : Nat → Nat} {xs : List av_X} {S : fw_S} {p : Program} {e : Env} {s : State} {m : MethodId} {args : Array Value} {below : List Frame} {meth : Method} {c : Code} {sz : Nat} {lvE : List (Nat × Value)} (G : hd_C wd_ff2 wd_fl2 kh_wSend [kh_wRoom] kh_wSend_y l D tc ad kd N sm xs p s m args meth c sz) (H0 : as_in ad sm wd_fl2 xs S kh_wSend.2.2.2.2.2.1 xs (hd_0 kh_wSend) lvE [] S) {k : Nat} (ih : kh_wSend_I l D tc ad kd N sm xs S p e s m args below meth c sz k) : (∀ (α : List av_X) (lv : List (Nat × Value)) (st : List Value) (S1 : fw_S), as_in ad sm wd_fl2 xs S kh_wSend.2.2.2.2.2.1 α kh_wSend_a170.2.2.1 lv st S1 → (S1.1 832 = S.1 832 ∧ (1 ≤ nv α 2 ∧ nv α 2 ≤ (S.1 832 (S.1 805 47).toInt.toNat).toInt)) → 5 < k + 1 → hd_WR R_wSend wd_fl2 kh_wSend kh_wSend_y l D tc ad kd N sm xs S p e s m args below meth c sz 170 lv st S1 0) := by
  have hx : xs.length = 1 := by rw [H0.2.1.1]; rfl
  have hok : wOK S := by
    have h := H0.2.2.2.2.2.2.2.2.1 504 List.mem_cons_self
    rw [wd_fl2, if_neg (by decide)] at h
    exact h
  intro α lv st S1 H hp hk
  obtain ⟨α1, hle, Hr⟩ := as_recM (pl := []) [((832, 832), (0, 11, 1))] (by decide +kernel) H
  have hf := H.2.2.2.2.2.2.2.2.2.2.1
  have hl1 : α1.length = 4 := by rw [Hr.2.1.1]; rfl
  have hl0 : α.length = 4 := by rw [H.2.1.1]; rfl
  have hxa : al_le xs α1 := H.1.trans hle
  obtain ⟨g1, -, g3, g4, -⟩ := as_fx Hr
  have g0 : (805 ≤ nv α1 0 ∧ nv α1 0 ≤ 805) ∧ (0 ≤ nv α1 1 ∧ nv α1 1 ≤ 11) ∧ (1 ≤ nv α1 2 ∧ nv α1 2 ≤ 2147483647) ∧ (0 ≤ nv α1 3 ∧ nv α1 3 ≤ 11) ∧ True := by
    refine ⟨by have h := (en_nv (i := 0) Hr.2.1 rfl).2; exact h, by have h := (en_nv (i := 1) Hr.2.1 rfl).2; exact h, by have h := (en_nv (i := 2) Hr.2.1 rfl).2; exact h, by have h := (en_nv (i := 3) Hr.2.1 rfl).2; exact h, trivial⟩
  have r0 : nv α1 0 = nv α 0 := nv_le hle (by omega)
  have r1 : nv α1 1 = nv α 1 := nv_le hle (by omega)
  have r2 : nv α1 2 = nv α 2 := nv_le hle (by omega)
  have r3 : nv α1 3 = nv α 3 := nv_le hle (by omega)
  refine hd_segMR G (na := 4) (fuel := 600) (first := true) (Bs := [kh_wSend_b170_0]) (by decide +kernel) hl1 Hr ?_
  intro q hq β lv' st' S' H1
  simp only [List.mem_cons, List.not_mem_nil, or_false] at hq
  rcases hq with rfl
  · obtain ⟨f1, f2, f3, f4, f5⟩ := as_fx H1
    simp only [kh_wSend_b170_0, fx_env, fx_c, fx_ne, fx_hf, wl_S, Nat.zero_add, Nat.reduceAdd, Nat.reduceDiv, Nat.reduceMod, List.getElem?_cons_zero, List.getElem?_cons_succ, if_true, and_true, true_and] at f1 f2 f3 f4 f5
    have fe0 : nv β 0 = 805 := by omega
    have fe4 : nv β 4 = 832 := by omega
    have fe5 : nv β 5 = 47 := by omega
    try simp only [fe0, fe4, fe5, Int.reduceToNat] at f2 f3 f4 f5
    have s0 : nv β 0 = nv α1 0 := nv_le H1.1 (by omega)
    have s1 : nv β 1 = nv α1 1 := nv_le H1.1 (by omega)
    have s2 : nv β 2 = nv α1 2 := nv_le H1.1 (by omega)
    have s3 : nv β 3 = nv α1 3 := nv_le H1.1 (by omega)
    obtain ⟨c0, c1, c2⟩ := f2
    have o1 := old_0 c1 rfl
    have o2 := old_i c2 (en_nv (i := 6) H1.2.1 rfl).1
    have e5 : S1.1 805 = S.1 805 := fr_row hf 805 (by decide +kernel)
    obtain ⟨p1, p2, p3⟩ := hp
    rw [e5] at o2
    rw [p1] at o1
    rw [o2, o1] at p3
    have hu := yS_upd (f := S.1 832) (g := S'.1 832) (j := (nv β 6).toNat) (n := 12) (fun i hi => by rw [f5, fw_i_row, if_neg hi, p1]) (by omega)
    have hg : (S'.1 832 (nv β 6).toNat).toInt = nv β 8 := by rw [f5, fw_i_row, if_pos rfl, i32_of (by omega) (by omega)]
    rw [o1, hg] at hu
    have hR : yS (S'.1 832) 12 + 1 ≤ yS (S.1 832) 12 := by omega
    exact hd_retIR G (v := 2) (by decide +kernel) (as_backM H1 (by decide +kernel) hxa hf) _ List.mem_cons_self rfl (by decide +kernel) (by decide) (fun w hw => by cases hw) (fun x hx => hR)
set_option maxHeartbeats 16000000 in
set_option maxRecDepth 8000 in
theorem kh_wSend_okR : ct_okR wd_fl2 kh_wSend R_wSend := ct_handR (R := R_wSend) (ff := wd_ff2) (y := kh_wSend_y) (Cs := [kh_wRoom]) wd_fl2_ok rfl (List.forall_mem_cons.mpr ⟨kh_wRoom_ok, (List.forall_mem_nil _)⟩) (by decide +kernel) (fun l D tc ad kd N sm xs S p e s m args below meth c sz lv G H0 => by
  have hx : xs.length = 1 := by rw [H0.2.1.1]; rfl
  have hok : wOK S := by
    have h := H0.2.2.2.2.2.2.2.2.1 504 List.mem_cons_self
    rw [wd_fl2, if_neg (by decide)] at h
    exact h
  have hP : ∀ (k : Nat), kh_wSend_I l D tc ad kd N sm xs S p e s m args below meth c sz k := by
    intro k
    induction k with
    | zero => exact ⟨fun _ _ _ _ _ _ h => absurd h (Nat.not_lt_zero _), fun _ _ _ _ _ _ h => absurd h (Nat.not_lt_zero _), fun _ _ _ _ _ _ h => absurd h (Nat.not_lt_zero _), fun _ _ _ _ _ _ h => absurd h (Nat.not_lt_zero _), fun _ _ _ _ _ _ h => absurd h (Nat.not_lt_zero _), fun _ _ _ _ _ _ h => absurd h (Nat.not_lt_zero _), trivial⟩
    | succ k ih => exact ⟨kh_wSend_h23 G H0 ih, kh_wSend_h26 G H0 ih, kh_wSend_h72 G H0 ih, kh_wSend_h118 G H0 ih, kh_wSend_h137 G H0 ih, kh_wSend_h170 G H0 ih, trivial⟩
  obtain ⟨α1, hle, Hr⟩ := as_recM (pl := []) [] (by decide +kernel) H0
  have hf := H0.2.2.2.2.2.2.2.2.2.2.1
  have hl1 : α1.length = 1 := by rw [Hr.2.1.1]; rfl
  have hl0 : xs.length = 1 := by rw [H0.2.1.1]; rfl
  have hxa : al_le xs α1 := H0.1.trans hle
  obtain ⟨g1, -, g3, g4, -⟩ := as_fx Hr
  have g0 : (805 ≤ nv α1 0 ∧ nv α1 0 ≤ 805) ∧ True := by
    refine ⟨by have h := (en_nv (i := 0) Hr.2.1 rfl).2; exact h, trivial⟩
  have r0 : nv α1 0 = nv xs 0 := nv_le hle (by omega)
  refine hd_segMR G (na := 1) (fuel := 600) (first := true) (Bs := [kh_wSend_b0_0]) (by decide +kernel) hl1 Hr ?_
  intro q hq β lv' st' S' H1
  simp only [List.mem_cons, List.not_mem_nil, or_false] at hq
  rcases hq with rfl
  · obtain ⟨f1, f2, f3, f4, f5⟩ := as_fx H1
    simp only [kh_wSend_b0_0, fx_env, fx_c, fx_ne, fx_hf, wl_S, Nat.zero_add, Nat.reduceAdd, Nat.reduceDiv, Nat.reduceMod, List.getElem?_cons_zero, List.getElem?_cons_succ, if_true, and_true, true_and] at f1 f2 f3 f4 f5
    have fe0 : nv β 0 = 805 := by omega
    have fe1 : nv β 1 = 827 := by omega
    have fe2 : nv β 2 = 46 := by omega
    have fe5 : nv β 5 = 47 := by omega
    have fe7 : nv β 7 = 828 := by omega
    have fe8 : nv β 8 = 46 := by omega
    try simp only [fe0, fe1, fe2, fe5, fe7, fe8, Int.reduceToNat] at f2 f3 f4 f5
    have s0 : nv β 0 = nv α1 0 := nv_le H1.1 (by omega)
    obtain ⟨c0, c1, c2, c3⟩ := f2
    obtain ⟨α', Ha, hm⟩ := hd_gpM (q := kh_wSend_a23) (n := 0) (by decide +kernel) hx H1 (by decide +kernel) hxa hf
    have hfr := H1.2.2.2.2.2.2.2.2.2.2.1
    have m0 : nv α' 0 = nv β 0 := hm 0 0 rfl
    have m1 : nv α' 1 = nv β 9 := hm 1 9 rfl
    have m2 : nv α' 2 = nv β 6 := hm 2 6 rfl
    have m3 : nv α' 3 = nv β 4 := hm 3 4 rfl
    subst S'
    have o0 := old_0 c0 rfl
    have o1 := old_i c1 (en_nv (i := 6) H1.2.1 rfl).1
    have o2 := old_0 c2 rfl
    have o3 := old_i c3 (en_nv (i := 3) H1.2.1 rfl).1
    refine (hP _).1 _ _ _ _ Ha ?_ (Nat.lt_succ_self _)
    · rw [m1, m2, m3]
      refine ⟨rfl, rfl, rfl, ?_, ?_, ?_⟩
      · rw [o3]; omega
      · omega
      · rw [o3]; omega)
theorem kh_wSend_ok : ct_ok wd_fl2 kh_wSend := ct_okR_ok kh_wSend_okR
