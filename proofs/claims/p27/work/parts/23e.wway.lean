/-! ===== wWay: a way is laid down ===== -/
def wPth (S : fw_S) (m : Int) (k : Nat) : Prop := 0 ≤ (S.1 841 k).toInt ∧ (S.1 841 k).toInt ≤ 33 ∧ 1 ≤ wRm S ((S.1 841 k).toInt / 2) ∧ (S.1 840 (lowI ((S.1 841 k).toInt / 2)).toNat).toInt + (S.1 840 (highI ((S.1 841 k).toInt / 2)).toNat).toInt = 2 * (m - k) - 1
theorem wPth_eq {S S' : fw_S} {m : Int} {k : Nat} (e0 : S'.1 840 = S.1 840) (e6 : S'.1 806 = S.1 806) (e9 : S'.1 839 = S.1 839) (ek : S'.1 841 k = S.1 841 k) (h : wPth S m k) : wPth S' m k := by
  unfold wPth wRm lkv at h ⊢
  rw [e0, e6, e9, ek]
  exact h
def P_wWay : List av_X → fw_S → Prop := fun xs S => ∃ n : Nat, n ≤ 11 ∧ wP S (nv xs 3) n (nv xs 2) (nv xs 1)
def R_wWay : List av_X → fw_S → fw_O → fw_S → Prop := fun _ _ oc S' => ∃ v : Int32, oc = .inl (some (.int v)) ∧ 0 ≤ v.toInt ∧ v.toInt ≤ 11 ∧ ∀ k : Nat, (k : Int) < v.toInt → wPth S' v.toInt k
abbrev wD (S : fw_S) (x : Int) : Int := (S.1 840 x.toNat).toInt
def wCom (S : fw_S) (a b h here many : Int) : Prop := wDs S b h ∧ wD S here ≤ 11 ∧ many = wD S a - wD S here ∧ wD S a ≤ 11 ∧ ∀ k : Nat, (k : Int) < many → wPth S (wD S a) k
def gdw (S : fw_S) (h x : Int) (y : Nat) : Prop := ∃ t : Nat, t ≤ 16 ∧ wOpP S t h ∧ jn t x y ∧ (S.1 840 y).toInt + 1 = wD S x
def wA1 (S : fw_S) (h here nx by' c : Int) : Prop := nx = -1 ∧ by' = -1 ∧ ∀ y : Nat, c < (y : Int) → y < 12 → ¬ gdw S h here y
def wA2 (S : fw_S) (h here nx by' : Int) : Prop := 0 ≤ nx ∧ nx ≤ 11 ∧ 0 ≤ by' ∧ by' ≤ 16 ∧ jn by'.toNat here nx ∧ wOpP S by' h ∧ wD S nx + 1 = wD S here
abbrev kh_wWay_y : mt_T := (⟨"UtilityWorksModel", "wWay", "(III)I"⟩, prog_14_method_120_code, 10, some .int, 12, 1, 3, 34193, 34192, 11014, 21014)
def kh_wWay : ct_T := (475, [(2, 805, 805, 0), (0, 0, 11, 1), (0, 0, 11, 1), (0, (-2147483648), 2147483647, 1)], [], [], [(1, (0, 0, 11, 1), [(2, 805, 805, 0), (0, 0, 11, 1), (0, 0, 11, 1), (0, (-2147483648), 2147483647, 1)], [], ([], []))], [((840, 840), (0, 11, 1)), ((841, 841), (0, 10, 1))], 6, 136, 0)
def kh_wWay_a3 : an_T := (3, 0, ([((2, 805, 805, 0), none), ((0, 0, 11, 1), none), ((0, 0, 11, 1), none), ((0, (-2147483648), 2147483647, 1), none)], [(0, 0), (1, 1), (2, 2), (3, 3)], [3, 2, 0], [], [], [], [], [], none), [])
def kh_wWay_a6 : an_T := (6, 0, ([((2, 805, 805, 0), none), ((0, 0, 11, 1), none), ((0, 0, 11, 1), none), ((0, (-2147483648), 2147483647, 1), none)], [(0, 0), (1, 1), (2, 2), (3, 3)], [], [], [], [], [], [], none), [])
def kh_wWay_a12 : an_T := (12, 0, ([((2, 805, 805, 0), none), ((0, 0, 11, 1), none), ((0, 0, 11, 1), none), ((0, (-2147483648), 2147483647, 1), none), ((0, 0, 11, 1), none), ((0, 0, 11, 1), none)], [(0, 0), (1, 1), (2, 2), (3, 3), (4, 4), (5, 5)], [], [], [], [], [], [], none), [])
def kh_wWay_a28 : an_T := (28, 0, ([((2, 805, 805, 0), none), ((0, 0, 11, 1), none), ((0, 0, 11, 1), none), ((0, (-2147483648), 2147483647, 1), none), ((0, 0, 11, 1), none), ((0, 0, 11, 1), none), ((0, (-1), 11, 1), none), ((0, (-1), 16, 1), none), ((0, (-1), 11, 1), none)], [(0, 0), (1, 1), (2, 2), (3, 3), (4, 4), (5, 5), (6, 6), (7, 7), (8, 8)], [], [], [], [], [], [], none), [])
def kh_wWay_a91 : an_T := (91, 0, ([((2, 805, 805, 0), none), ((0, 0, 11, 1), none), ((0, 0, 11, 1), none), ((0, (-2147483648), 2147483647, 1), none), ((0, 0, 11, 1), none), ((0, 0, 10, 1), none), ((0, (-1), 11, 1), none), ((0, (-1), 16, 1), none), ((0, (-1), (-1), 1), none)], [(0, 0), (1, 1), (2, 2), (3, 3), (4, 4), (5, 5), (6, 6), (7, 7), (8, 8)], [], [], [], [], [], [], none), [])
def kh_wWay_b0_0 : sg_T := (3, 0, ([((2, 805, 805, 0), none), ((0, 0, 11, 1), none), ((0, 0, 11, 1), none), ((0, (-2147483648), 2147483647, 1), none)], [(0, 0), (1, 1), (2, 2), (3, 3)], [3, 2, 0], [], [], [], [], [], some []))
def kh_wWay_b3_0 : sg_T := (6, 0, ([((2, 805, 805, 0), none), ((0, 0, 11, 1), none), ((0, 0, 11, 1), none), ((0, (-2147483648), 2147483647, 1), none)], [(0, 0), (1, 1), (2, 2), (3, 3)], [], [], [], [], [], [], none))
def kh_wWay_b6_0 : sg_T := (12, 0, ([((2, 805, 805, 0), none), ((0, 0, 11, 1), none), ((0, 0, 11, 1), none), ((0, (-2147483648), 2147483647, 1), none), ((0, 0, 0, 0), none)], [(5, 4), (4, 1), (0, 0), (1, 1), (2, 2), (3, 3)], [], [], [], [], [], [], some []))
def kh_wWay_b12_0 : sg_T := (130, 0, ([((2, 805, 805, 0), none), ((0, 0, 11, 1), none), ((0, 0, 11, 1), none), ((0, (-2147483648), 2147483647, 1), none), ((0, 0, 11, 1), none), ((0, 0, 11, 1), none)], [(0, 0), (1, 1), (2, 2), (3, 3), (4, 4), (5, 5)], [5], [], [], [(300000, 4, 2)], [], [], some []))
def kh_wWay_b12_1 : sg_T := (28, 0, ([((2, 805, 805, 0), none), ((0, 0, 11, 1), none), ((0, 0, 11, 1), none), ((0, (-2147483648), 2147483647, 1), none), ((0, 0, 11, 1), none), ((0, 0, 11, 1), none), ((0, (-1), (-1), 0), none), ((0, (-1), (-1), 0), none), ((0, 11, 11, 0), none)], [(8, 8), (7, 7), (6, 6), (0, 0), (1, 1), (2, 2), (3, 3), (4, 4), (5, 5)], [], [], [], [(400000, 4, 2)], [], [], some []))
def kh_wWay_b28_0 : sg_T := (91, 0, ([((2, 805, 805, 0), none), ((0, 0, 11, 1), none), ((0, 0, 11, 1), none), ((0, (-2147483648), 2147483647, 1), none), ((0, 0, 11, 1), none), ((0, 0, 10, 1), none), ((0, (-1), 11, 1), none), ((0, (-1), 16, 1), none), ((0, (-1), (-1), 1), none)], [(0, 0), (1, 1), (2, 2), (3, 3), (4, 4), (5, 5), (6, 6), (7, 7), (8, 8)], [], [], [], [], [], [], some []))
def kh_wWay_b28_1 : sg_T := (28, 0, ([((2, 805, 805, 0), none), ((0, 0, 11, 1), none), ((0, 0, 11, 1), none), ((0, (-2147483648), 2147483647, 1), none), ((0, 0, 11, 1), none), ((0, 0, 10, 1), none), ((0, (-1), 11, 1), none), ((0, (-1), 16, 1), none), ((0, 0, 11, 1), none), ((0, (-1), (-1), 1), none), ((0, (-1), (-1), 0), none), ((0, (-1), 10, 1), some (8, (-1)))], [(8, 11), (9, 9), (0, 0), (1, 1), (2, 2), (3, 3), (4, 4), (5, 5), (6, 6), (7, 7)], [], [], [], [(300000, 9, 10), (1700009, 4, 8)], [], [], some []))
def kh_wWay_b28_2 : sg_T := (28, 0, ([((2, 805, 805, 0), none), ((0, 0, 11, 1), none), ((0, 0, 11, 1), none), ((0, (-2147483648), 2147483647, 1), none), ((0, 0, 11, 1), none), ((0, 0, 10, 1), none), ((0, (-1), 11, 1), none), ((0, (-1), 16, 1), none), ((0, 0, 11, 1), none), ((0, 0, 16, 1), none), ((0, (-1), (-1), 0), none), ((0, 0, 0, 1), none), ((0, (-1), 10, 1), some (8, (-1)))], [(8, 12), (9, 9), (0, 0), (1, 1), (2, 2), (3, 3), (4, 4), (5, 5), (6, 6), (7, 7)], [], [], [(9, (-1))], [(102100011, 9, 3), (400000, 9, 10), (1700009, 4, 8)], [], [], some []))
def kh_wWay_b28_3 : sg_T := (28, 0, ([((2, 805, 805, 0), none), ((0, 0, 11, 1), none), ((0, 0, 11, 1), none), ((0, (-2147483648), 2147483647, 1), none), ((0, 0, 11, 1), none), ((0, 0, 10, 1), none), ((0, (-1), 11, 1), none), ((0, (-1), 16, 1), none), ((0, 0, 11, 1), none), ((0, 0, 16, 1), none), ((0, (-1), (-1), 0), none), ((0, 1, 1, 1), none), ((2, 840, 840, 1), none), ((0, 0, 99, 1), none), ((2, 840, 840, 1), none), ((0, 0, 99, 1), none), ((0, 1, 1, 0), none), ((0, (-1), 98, 1), some (15, (-1))), ((0, (-1), 10, 1), some (8, (-1)))], [(8, 18), (9, 9), (0, 0), (1, 1), (2, 2), (3, 3), (4, 4), (5, 5), (6, 6), (7, 7)], [], [(14, 4, 15), (12, 8, 13)], [(11, 0), (9, (-1))], [(400000, 13, 17), (600017, 15, 16), (800015, 14, 4), (800013, 12, 8), (102100011, 9, 3), (400000, 9, 10), (1700009, 4, 8)], [], [], some []))
def kh_wWay_b28_4 : sg_T := (28, 0, ([((2, 805, 805, 0), none), ((0, 0, 11, 1), none), ((0, 0, 11, 1), none), ((0, (-2147483648), 2147483647, 1), none), ((0, 0, 11, 1), none), ((0, 0, 10, 1), none), ((0, (-1), 11, 1), none), ((0, (-1), 16, 1), none), ((0, 0, 11, 1), none), ((0, 0, 16, 1), none), ((0, (-1), (-1), 0), none), ((0, 1, 1, 1), none), ((2, 840, 840, 1), none), ((0, 0, 98, 1), none), ((2, 840, 840, 1), none), ((0, 1, 99, 1), none), ((0, 1, 1, 0), none), ((0, 0, 98, 1), some (15, (-1))), ((0, (-1), 10, 1), some (8, (-1)))], [(8, 18), (7, 9), (6, 8), (9, 9), (0, 0), (1, 1), (2, 2), (3, 3), (4, 4), (5, 5)], [], [(14, 4, 15), (12, 8, 13)], [(11, 0), (9, (-1))], [(300000, 13, 17), (600017, 15, 16), (800015, 14, 4), (800013, 12, 8), (102100011, 9, 3), (400000, 9, 10), (1700009, 4, 8)], [], [], some []))
def kh_wWay_b91_0 : sg_T := (12, 0, ([((2, 805, 805, 0), none), ((0, 0, 11, 1), none), ((0, 0, 11, 1), none), ((0, (-2147483648), 2147483647, 1), none), ((0, 0, 11, 1), none), ((0, 0, 10, 1), none), ((0, 0, 11, 1), none), ((0, 0, 16, 1), none), ((0, (-1), (-1), 1), none), ((2, 841, 841, 1), none), ((0, 2, 2, 0), none), ((0, 0, 32, 2), none), ((0, 0, 10, 1), none), ((0, 1, 1, 0), none), ((0, 1, 33, 2), some (11, 1)), ((0, 1, 11, 1), some (5, 1))], [(4, 6), (5, 15), (0, 0), (1, 1), (2, 2), (3, 3), (6, 6), (7, 7), (8, 8)], [], [(9, 5, 14)], [], [(500014, 11, 13), (400000, 4, 12), (1000012, 7, 7), (700011, 10, 7)], [], [], some [(9, 5, 14)]))
def kh_wWay_b91_1 : sg_T := (12, 0, ([((2, 805, 805, 0), none), ((0, 0, 11, 1), none), ((0, 0, 11, 1), none), ((0, (-2147483648), 2147483647, 1), none), ((0, 0, 10, 1), none), ((0, 0, 10, 1), none), ((0, 0, 11, 1), none), ((0, 0, 16, 1), none), ((0, (-1), (-1), 1), none), ((2, 841, 841, 1), none), ((0, 2, 2, 0), none), ((0, 0, 32, 2), none), ((0, 0, 10, 1), none), ((0, 0, 0, 0), none), ((0, 0, 32, 2), some (11, 0)), ((0, 1, 11, 1), some (5, 1))], [(4, 6), (5, 15), (0, 0), (1, 1), (2, 2), (3, 3), (6, 6), (7, 7), (8, 8)], [], [(9, 5, 14)], [], [(500014, 11, 13), (300000, 4, 12), (1000012, 7, 7), (700011, 10, 7)], [], [], some [(9, 5, 14)]))
def kh_wWay_I (l : Launch) (D : va_G) (tc : Nat → ClassId) (ad : Nat → Nat) (kd : Nat → Nat × Nat) (N : Nat) (sm : Nat → Nat) (xs : List av_X) (S : fw_S) (p : Program) (e : Env) (s : State) (m : MethodId) (args : Array Value) (below : List Frame) (meth : Method) (c : Code) (sz : Nat) (k : Nat) : Prop := (∀ (α : List av_X) (lv : List (Nat × Value)) (st : List Value) (S1 : fw_S), as_in ad sm wd_fl2 xs S kh_wWay.2.2.2.2.2.1 α kh_wWay_a3.2.2.1 lv st S1 → (True) → 100000 < k → hd_WR R_wWay wd_fl2 kh_wWay kh_wWay_y l D tc ad kd N sm xs S p e s m args below meth c sz 3 lv st S1 0) ∧ (∀ (α : List av_X) (lv : List (Nat × Value)) (st : List Value) (S1 : fw_S), as_in ad sm wd_fl2 xs S kh_wWay.2.2.2.2.2.1 α kh_wWay_a6.2.2.1 lv st S1 → (wDs S1 (nv xs 2) (nv xs 3)) → 90000 < k → hd_WR R_wWay wd_fl2 kh_wWay kh_wWay_y l D tc ad kd N sm xs S p e s m args below meth c sz 6 lv st S1 0) ∧ (∀ (α : List av_X) (lv : List (Nat × Value)) (st : List Value) (S1 : fw_S), as_in ad sm wd_fl2 xs S kh_wWay.2.2.2.2.2.1 α kh_wWay_a12.2.2.1 lv st S1 → (wCom S1 (nv xs 1) (nv xs 2) (nv xs 3) (nv α 4) (nv α 5)) → 1000 * (wD S1 (nv α 4)).toNat + 500 < k → hd_WR R_wWay wd_fl2 kh_wWay kh_wWay_y l D tc ad kd N sm xs S p e s m args below meth c sz 12 lv st S1 0) ∧ (∀ (α : List av_X) (lv : List (Nat × Value)) (st : List Value) (S1 : fw_S), as_in ad sm wd_fl2 xs S kh_wWay.2.2.2.2.2.1 α kh_wWay_a28.2.2.1 lv st S1 → (wCom S1 (nv xs 1) (nv xs 2) (nv xs 3) (nv α 4) (nv α 5) ∧ 1 ≤ wD S1 (nv α 4) ∧ nv α 5 ≤ 10 ∧ (wA1 S1 (nv xs 3) (nv α 4) (nv α 6) (nv α 7) (nv α 8) ∨ wA2 S1 (nv xs 3) (nv α 4) (nv α 6) (nv α 7))) → 1000 * (wD S1 (nv α 4)).toNat + (nv α 8 + 1).toNat + 10 < k → hd_WR R_wWay wd_fl2 kh_wWay kh_wWay_y l D tc ad kd N sm xs S p e s m args below meth c sz 28 lv st S1 0) ∧ (∀ (α : List av_X) (lv : List (Nat × Value)) (st : List Value) (S1 : fw_S), as_in ad sm wd_fl2 xs S kh_wWay.2.2.2.2.2.1 α kh_wWay_a91.2.2.1 lv st S1 → (wCom S1 (nv xs 1) (nv xs 2) (nv xs 3) (nv α 4) (nv α 5) ∧ nv α 5 ≤ 10 ∧ wA2 S1 (nv xs 3) (nv α 4) (nv α 6) (nv α 7)) → 1000 * (wD S1 (nv α 4)).toNat + 5 < k → hd_WR R_wWay wd_fl2 kh_wWay kh_wWay_y l D tc ad kd N sm xs S p e s m args below meth c sz 91 lv st S1 0) ∧ True
set_option maxHeartbeats 16000000 in
set_option maxRecDepth 8000 in
theorem kh_wWay_h3 {l : Launch} {D : va_G} {tc : Nat → ClassId} {ad : Nat → Nat} {kd : Nat → Nat × Nat} {N : Nat} {sm : Nat → Nat} {xs : List av_X} {S : fw_S} {p : Program} {e : Env} {s : State} {m : MethodId} {args : Array Value} {below : List Frame} {meth : Method} {c : Code} {sz : Nat} {lvE : List (Nat × Value)} (G : hd_C wd_ff2 wd_fl2 kh_wWay [kh_wReach2, kh_streetBetween, kh_wOpen, kh_low] kh_wWay_y l D tc ad kd N sm xs p s m args meth c sz) (H0 : as_in ad sm wd_fl2 xs S kh_wWay.2.2.2.2.2.1 xs (hd_0 kh_wWay) lvE [] S) (hpre : P_wWay xs S) {k : Nat} (ih : kh_wWay_I l D tc ad kd N sm xs S p e s m args below meth c sz k) : (∀ (α : List av_X) (lv : List (Nat × Value)) (st : List Value) (S1 : fw_S), as_in ad sm wd_fl2 xs S kh_wWay.2.2.2.2.2.1 α kh_wWay_a3.2.2.1 lv st S1 → (True) → 100000 < k + 1 → hd_WR R_wWay wd_fl2 kh_wWay kh_wWay_y l D tc ad kd N sm xs S p e s m args below meth c sz 3 lv st S1 0) := by
  have hx : xs.length = 4 := by rw [H0.2.1.1]; rfl
  intro α lv st S1 H hp hk
  obtain ⟨α1, hle, Hr⟩ := as_recM (pl := []) [((840, 840), (0, 11, 1))] (by decide +kernel) H
  have hf := H.2.2.2.2.2.2.2.2.2.2.1
  have hl1 : α1.length = 4 := by rw [Hr.2.1.1]; rfl
  have hl0 : α.length = 4 := by rw [H.2.1.1]; rfl
  have hxa : al_le xs α1 := H.1.trans hle
  obtain ⟨g1, -, g3, g4, -⟩ := as_fx Hr
  have g0 : (805 ≤ nv α1 0 ∧ nv α1 0 ≤ 805) ∧ (0 ≤ nv α1 1 ∧ nv α1 1 ≤ 11) ∧ (0 ≤ nv α1 2 ∧ nv α1 2 ≤ 11) ∧ ((-2147483648) ≤ nv α1 3 ∧ nv α1 3 ≤ 2147483647) ∧ True := by
    refine ⟨by have h := (en_nv (i := 0) Hr.2.1 rfl).2; exact h, by have h := (en_nv (i := 1) Hr.2.1 rfl).2; exact h, by have h := (en_nv (i := 2) Hr.2.1 rfl).2; exact h, by have h := (en_nv (i := 3) Hr.2.1 rfl).2; exact h, trivial⟩
  have r0 : nv α1 0 = nv α 0 := nv_le hle (by omega)
  have r1 : nv α1 1 = nv α 1 := nv_le hle (by omega)
  have r2 : nv α1 2 = nv α 2 := nv_le hle (by omega)
  have r3 : nv α1 3 = nv α 3 := nv_le hle (by omega)
  refine hd_callRR (Rr := R_wReach) (Rs := [kh_wReach2]) (idx := 528) G (List.forall_mem_cons.mpr ⟨kh_wReach2_okR, List.forall_mem_nil _⟩) (na := 4) (Bs := [kh_wWay_b3_0]) (by decide +kernel) (by decide +kernel) hl1 Hr ?_
  intro q hq β lv' st' S' H1 hRx
  simp only [List.mem_cons, List.not_mem_nil, or_false] at hq
  rcases hq with rfl
  · obtain ⟨f1, f2, f3, f4, f5⟩ := as_fx H1
    simp only [kh_wWay_b3_0, fx_env, fx_c, fx_ne, fx_hf, wl_S, Nat.zero_add, Nat.reduceAdd, Nat.reduceDiv, Nat.reduceMod, List.getElem?_cons_zero, List.getElem?_cons_succ, if_true, and_true, true_and] at f1 f2 f3 f4 f5
    have fe0 : nv β 0 = 805 := by omega
    try simp only [fe0, Int.reduceToNat] at f2 f3 f4 f5
    have s0 : nv β 0 = nv α1 0 := nv_le H1.1 (by omega)
    have s1 : nv β 1 = nv α1 1 := nv_le H1.1 (by omega)
    have s2 : nv β 2 = nv α1 2 := nv_le H1.1 (by omega)
    have s3 : nv β 3 = nv α1 3 := nv_le H1.1 (by omega)
    obtain ⟨α', Ha, hm⟩ := hd_gpM (q := kh_wWay_a6) (n := 0) (by decide +kernel) hx H1 (by decide +kernel) hxa hf
    have hfr := H1.2.2.2.2.2.2.2.2.2.2.1
    have m0 : nv α' 0 = nv β 0 := hm 0 0 rfl
    have m1 : nv α' 1 = nv β 1 := hm 1 1 rfl
    have m2 : nv α' 2 = nv β 2 := hm 2 2 rfl
    have m3 : nv α' 3 = nv β 3 := hm 3 3 rfl
    obtain ⟨Cc, hCc, ys, rr, hnm, hR, -⟩ := hRx
    rcases List.mem_singleton.mp hCc with rfl
    have y1 : nv ys 1 = nv α1 2 := nm_nv hnm (i := 1) (v := 2) rfl
    have y2 : nv ys 2 = nv α1 3 := nm_nv hnm (i := 2) (v := 3) rfl
    have z1 : nv α 1 = nv xs 1 := nv_le H.1 (by omega)
    have z2 : nv α 2 = nv xs 2 := nv_le H.1 (by omega)
    have z3 : nv α 3 = nv xs 3 := nv_le H.1 (by omega)
    have hR' : wDs S' (nv ys 1) (nv ys 2) := hR
    rw [y1, y2, r2, r3, z2, z3] at hR'
    refine ih.2.1 _ _ _ _ Ha ?_ ?_
    · exact hR'
    · omega
set_option maxHeartbeats 16000000 in
set_option maxRecDepth 8000 in
theorem kh_wWay_h6 {l : Launch} {D : va_G} {tc : Nat → ClassId} {ad : Nat → Nat} {kd : Nat → Nat × Nat} {N : Nat} {sm : Nat → Nat} {xs : List av_X} {S : fw_S} {p : Program} {e : Env} {s : State} {m : MethodId} {args : Array Value} {below : List Frame} {meth : Method} {c : Code} {sz : Nat} {lvE : List (Nat × Value)} (G : hd_C wd_ff2 wd_fl2 kh_wWay [kh_wReach2, kh_streetBetween, kh_wOpen, kh_low] kh_wWay_y l D tc ad kd N sm xs p s m args meth c sz) (H0 : as_in ad sm wd_fl2 xs S kh_wWay.2.2.2.2.2.1 xs (hd_0 kh_wWay) lvE [] S) (hpre : P_wWay xs S) {k : Nat} (ih : kh_wWay_I l D tc ad kd N sm xs S p e s m args below meth c sz k) : (∀ (α : List av_X) (lv : List (Nat × Value)) (st : List Value) (S1 : fw_S), as_in ad sm wd_fl2 xs S kh_wWay.2.2.2.2.2.1 α kh_wWay_a6.2.2.1 lv st S1 → (wDs S1 (nv xs 2) (nv xs 3)) → 90000 < k + 1 → hd_WR R_wWay wd_fl2 kh_wWay kh_wWay_y l D tc ad kd N sm xs S p e s m args below meth c sz 6 lv st S1 0) := by
  have hx : xs.length = 4 := by rw [H0.2.1.1]; rfl
  intro α lv st S1 H hp hk
  obtain ⟨α1, hle, Hr⟩ := as_recM (pl := []) [] (by decide +kernel) H
  have hf := H.2.2.2.2.2.2.2.2.2.2.1
  have hl1 : α1.length = 4 := by rw [Hr.2.1.1]; rfl
  have hl0 : α.length = 4 := by rw [H.2.1.1]; rfl
  have hxa : al_le xs α1 := H.1.trans hle
  obtain ⟨g1, -, g3, g4, -⟩ := as_fx Hr
  have g0 : (805 ≤ nv α1 0 ∧ nv α1 0 ≤ 805) ∧ (0 ≤ nv α1 1 ∧ nv α1 1 ≤ 11) ∧ (0 ≤ nv α1 2 ∧ nv α1 2 ≤ 11) ∧ ((-2147483648) ≤ nv α1 3 ∧ nv α1 3 ≤ 2147483647) ∧ True := by
    refine ⟨by have h := (en_nv (i := 0) Hr.2.1 rfl).2; exact h, by have h := (en_nv (i := 1) Hr.2.1 rfl).2; exact h, by have h := (en_nv (i := 2) Hr.2.1 rfl).2; exact h, by have h := (en_nv (i := 3) Hr.2.1 rfl).2; exact h, trivial⟩
  have r0 : nv α1 0 = nv α 0 := nv_le hle (by omega)
  have r1 : nv α1 1 = nv α 1 := nv_le hle (by omega)
  have r2 : nv α1 2 = nv α 2 := nv_le hle (by omega)
  have r3 : nv α1 3 = nv α 3 := nv_le hle (by omega)
  refine hd_segMR G (na := 4) (fuel := 600) (first := true) (Bs := [kh_wWay_b6_0]) (by decide +kernel) hl1 Hr ?_
  intro q hq β lv' st' S' H1
  simp only [List.mem_cons, List.not_mem_nil, or_false] at hq
  rcases hq with rfl
  · obtain ⟨f1, f2, f3, f4, f5⟩ := as_fx H1
    simp only [kh_wWay_b6_0, fx_env, fx_c, fx_ne, fx_hf, wl_S, Nat.zero_add, Nat.reduceAdd, Nat.reduceDiv, Nat.reduceMod, List.getElem?_cons_zero, List.getElem?_cons_succ, if_true, and_true, true_and] at f1 f2 f3 f4 f5
    have fe0 : nv β 0 = 805 := by omega
    have fe4 : nv β 4 = 0 := by omega
    try simp only [fe0, fe4, Int.reduceToNat] at f2 f3 f4 f5
    have s0 : nv β 0 = nv α1 0 := nv_le H1.1 (by omega)
    have s1 : nv β 1 = nv α1 1 := nv_le H1.1 (by omega)
    have s2 : nv β 2 = nv α1 2 := nv_le H1.1 (by omega)
    have s3 : nv β 3 = nv α1 3 := nv_le H1.1 (by omega)
    obtain ⟨α', Ha, hm⟩ := hd_gpM (q := kh_wWay_a12) (n := 0) (by decide +kernel) hx H1 (by decide +kernel) hxa hf
    have hfr := H1.2.2.2.2.2.2.2.2.2.2.1
    have m0 : nv α' 0 = nv β 0 := hm 0 0 rfl
    have m1 : nv α' 1 = nv β 1 := hm 1 1 rfl
    have m2 : nv α' 2 = nv β 2 := hm 2 2 rfl
    have m3 : nv α' 3 = nv β 3 := hm 3 3 rfl
    have m4 : nv α' 4 = nv β 1 := hm 4 1 rfl
    have m5 : nv α' 5 = nv β 4 := hm 5 4 rfl
    subst S'
    have z1 : nv α 1 = nv xs 1 := nv_le H.1 (by omega)
    have z2 : nv α 2 = nv xs 2 := nv_le H.1 (by omega)
    have z3 : nv α 3 = nv xs 3 := nv_le H.1 (by omega)
    have e6 : S1.1 806 = S.1 806 := fr_row hf 806 (by decide +kernel)
    have e9 : S1.1 839 = S.1 839 := fr_row hf 839 (by decide +kernel)
    have hrg : ∀ j : Nat, j < 12 → 0 ≤ (S1.1 840 j).toInt ∧ (S1.1 840 j).toInt ≤ 99 := fun j hj => rg_bd (q_rg_in (q := ((840, 840), (0, 11, 1), (0, 0, 99, 1))) (by decide +kernel) H) (by omega)
    obtain ⟨n, n1, n2⟩ := hpre
    have n3 : wP S1 (nv xs 3) n (nv xs 2) (nv xs 1) := wP_eq (fun j _ => by rw [e6]) (fun j _ => by rw [e9]) (by omega) n2
    have d0 := hp.2.2 (wP_hgt n3)
    have d1 := wD_near hp n _ _ (by omega) (by omega) n3
    have d2 := hrg (nv xs 1).toNat (by omega)
    refine ih.2.2.1 _ _ _ _ Ha ?_ ?_
    · rw [m4, m5, s1, r1, z1]
      exact ⟨hp, by show (S1.1 840 (nv xs 1).toNat).toInt ≤ 11; omega, by omega, by show (S1.1 840 (nv xs 1).toNat).toInt ≤ 11; omega, fun k hk2 => by omega⟩
    · rw [m4, s1, r1, z1]; show 1000 * ((S1.1 840 (nv xs 1).toNat).toInt).toNat + 500 < k; omega
set_option maxHeartbeats 16000000 in
set_option maxRecDepth 8000 in
theorem kh_wWay_h12 {l : Launch} {D : va_G} {tc : Nat → ClassId} {ad : Nat → Nat} {kd : Nat → Nat × Nat} {N : Nat} {sm : Nat → Nat} {xs : List av_X} {S : fw_S} {p : Program} {e : Env} {s : State} {m : MethodId} {args : Array Value} {below : List Frame} {meth : Method} {c : Code} {sz : Nat} {lvE : List (Nat × Value)} (G : hd_C wd_ff2 wd_fl2 kh_wWay [kh_wReach2, kh_streetBetween, kh_wOpen, kh_low] kh_wWay_y l D tc ad kd N sm xs p s m args meth c sz) (H0 : as_in ad sm wd_fl2 xs S kh_wWay.2.2.2.2.2.1 xs (hd_0 kh_wWay) lvE [] S) (hpre : P_wWay xs S) {k : Nat} (ih : kh_wWay_I l D tc ad kd N sm xs S p e s m args below meth c sz k) : (∀ (α : List av_X) (lv : List (Nat × Value)) (st : List Value) (S1 : fw_S), as_in ad sm wd_fl2 xs S kh_wWay.2.2.2.2.2.1 α kh_wWay_a12.2.2.1 lv st S1 → (wCom S1 (nv xs 1) (nv xs 2) (nv xs 3) (nv α 4) (nv α 5)) → 1000 * (wD S1 (nv α 4)).toNat + 500 < k + 1 → hd_WR R_wWay wd_fl2 kh_wWay kh_wWay_y l D tc ad kd N sm xs S p e s m args below meth c sz 12 lv st S1 0) := by
  have hx : xs.length = 4 := by rw [H0.2.1.1]; rfl
  intro α lv st S1 H hp hk
  obtain ⟨α1, hle, Hr⟩ := as_recM (pl := []) [] (by decide +kernel) H
  have hf := H.2.2.2.2.2.2.2.2.2.2.1
  have hl1 : α1.length = 6 := by rw [Hr.2.1.1]; rfl
  have hl0 : α.length = 6 := by rw [H.2.1.1]; rfl
  have hxa : al_le xs α1 := H.1.trans hle
  obtain ⟨g1, -, g3, g4, -⟩ := as_fx Hr
  have g0 : (805 ≤ nv α1 0 ∧ nv α1 0 ≤ 805) ∧ (0 ≤ nv α1 1 ∧ nv α1 1 ≤ 11) ∧ (0 ≤ nv α1 2 ∧ nv α1 2 ≤ 11) ∧ ((-2147483648) ≤ nv α1 3 ∧ nv α1 3 ≤ 2147483647) ∧ (0 ≤ nv α1 4 ∧ nv α1 4 ≤ 11) ∧ (0 ≤ nv α1 5 ∧ nv α1 5 ≤ 11) ∧ True := by
    refine ⟨by have h := (en_nv (i := 0) Hr.2.1 rfl).2; exact h, by have h := (en_nv (i := 1) Hr.2.1 rfl).2; exact h, by have h := (en_nv (i := 2) Hr.2.1 rfl).2; exact h, by have h := (en_nv (i := 3) Hr.2.1 rfl).2; exact h, by have h := (en_nv (i := 4) Hr.2.1 rfl).2; exact h, by have h := (en_nv (i := 5) Hr.2.1 rfl).2; exact h, trivial⟩
  have r0 : nv α1 0 = nv α 0 := nv_le hle (by omega)
  have r1 : nv α1 1 = nv α 1 := nv_le hle (by omega)
  have r2 : nv α1 2 = nv α 2 := nv_le hle (by omega)
  have r3 : nv α1 3 = nv α 3 := nv_le hle (by omega)
  have r4 : nv α1 4 = nv α 4 := nv_le hle (by omega)
  have r5 : nv α1 5 = nv α 5 := nv_le hle (by omega)
  refine hd_segMR G (na := 6) (fuel := 600) (first := true) (Bs := [kh_wWay_b12_0, kh_wWay_b12_1]) (by decide +kernel) hl1 Hr ?_
  intro q hq β lv' st' S' H1
  simp only [List.mem_cons, List.not_mem_nil, or_false] at hq
  rcases hq with rfl | rfl
  · obtain ⟨f1, f2, f3, f4, f5⟩ := as_fx H1
    simp only [kh_wWay_b12_0, fx_env, fx_c, fx_ne, fx_hf, wl_S, Nat.zero_add, Nat.reduceAdd, Nat.reduceDiv, Nat.reduceMod, List.getElem?_cons_zero, List.getElem?_cons_succ, if_true, and_true, true_and] at f1 f2 f3 f4 f5
    have fe0 : nv β 0 = 805 := by omega
    try simp only [fe0, Int.reduceToNat] at f2 f3 f4 f5
    have s0 : nv β 0 = nv α1 0 := nv_le H1.1 (by omega)
    have s1 : nv β 1 = nv α1 1 := nv_le H1.1 (by omega)
    have s2 : nv β 2 = nv α1 2 := nv_le H1.1 (by omega)
    have s3 : nv β 3 = nv α1 3 := nv_le H1.1 (by omega)
    have s4 : nv β 4 = nv α1 4 := nv_le H1.1 (by omega)
    have s5 : nv β 5 = nv α1 5 := nv_le H1.1 (by omega)
    have c0 := f2
    have e6 : S1.1 806 = S.1 806 := fr_row hf 806 (by decide +kernel)
    have z2 : nv α 2 = nv xs 2 := nv_le H.1 (by omega)
    obtain ⟨n, n1, n2⟩ := hpre
    have hh := wP_hgt n2
    obtain ⟨p1, p2, p3, p4, p5⟩ := hp
    have d0 := p1.2.2 (by unfold hgt at hh ⊢; rw [e6]; exact hh)
    have e4 : nv α 4 = nv xs 2 := by omega
    rw [e4] at p2 p3
    have hv : nv α 5 = wD S1 (nv xs 1) := by unfold wD at *; omega
    refine hd_retIR G (v := 5) (by decide +kernel) (as_backM H1 (by decide +kernel) hxa hf) _ List.mem_cons_self rfl (by decide +kernel) (by decide) (fun w hw => by cases hw) (fun v hv2 => ?_)
    have hv3 : v.toInt = wD S1 (nv xs 1) := by omega
    refine ⟨v, rfl, by omega, by omega, fun k hk2 => ?_⟩
    rw [f5, hv3]
    exact p5 k (by omega)
  · obtain ⟨f1, f2, f3, f4, f5⟩ := as_fx H1
    simp only [kh_wWay_b12_1, fx_env, fx_c, fx_ne, fx_hf, wl_S, Nat.zero_add, Nat.reduceAdd, Nat.reduceDiv, Nat.reduceMod, List.getElem?_cons_zero, List.getElem?_cons_succ, if_true, and_true, true_and] at f1 f2 f3 f4 f5
    have fe0 : nv β 0 = 805 := by omega
    have fe6 : nv β 6 = (-1) := by omega
    have fe7 : nv β 7 = (-1) := by omega
    have fe8 : nv β 8 = 11 := by omega
    try simp only [fe0, fe6, fe7, fe8, Int.reduceToNat] at f2 f3 f4 f5
    have s0 : nv β 0 = nv α1 0 := nv_le H1.1 (by omega)
    have s1 : nv β 1 = nv α1 1 := nv_le H1.1 (by omega)
    have s2 : nv β 2 = nv α1 2 := nv_le H1.1 (by omega)
    have s3 : nv β 3 = nv α1 3 := nv_le H1.1 (by omega)
    have s4 : nv β 4 = nv α1 4 := nv_le H1.1 (by omega)
    have s5 : nv β 5 = nv α1 5 := nv_le H1.1 (by omega)
    have c0 := f2
    obtain ⟨α', Ha, hm⟩ := hd_gpM (q := kh_wWay_a28) (n := 0) (by decide +kernel) hx H1 (by decide +kernel) hxa hf
    have hfr := H1.2.2.2.2.2.2.2.2.2.2.1
    have m0 : nv α' 0 = nv β 0 := hm 0 0 rfl
    have m1 : nv α' 1 = nv β 1 := hm 1 1 rfl
    have m2 : nv α' 2 = nv β 2 := hm 2 2 rfl
    have m3 : nv α' 3 = nv β 3 := hm 3 3 rfl
    have m4 : nv α' 4 = nv β 4 := hm 4 4 rfl
    have m5 : nv α' 5 = nv β 5 := hm 5 5 rfl
    have m6 : nv α' 6 = nv β 6 := hm 6 6 rfl
    have m7 : nv α' 7 = nv β 7 := hm 7 7 rfl
    have m8 : nv α' 8 = nv β 8 := hm 8 8 rfl
    subst S'
    have z1 : nv α 1 = nv xs 1 := nv_le H.1 (by omega)
    have z2 : nv α 2 = nv xs 2 := nv_le H.1 (by omega)
    have z3 : nv α 3 = nv xs 3 := nv_le H.1 (by omega)
    have hrg : ∀ j : Nat, j < 12 → 0 ≤ (S1.1 840 j).toInt ∧ (S1.1 840 j).toInt ≤ 99 := fun j hj => rg_bd (q_rg_in (q := ((840, 840), (0, 11, 1), (0, 0, 99, 1))) (by decide +kernel) H) (by omega)
    have hne : nv α 4 ≠ nv xs 2 := by omega
    have hd := hrg (nv α 4).toNat (by omega)
    have ha := hrg (nv xs 1).toNat (by omega)
    obtain ⟨p1, p2, p3, p4, p5⟩ := hp
    have hd1 : 1 ≤ wD S1 (nv α 4) := by
      rcases p1.1 (nv α 4).toNat (by omega) with g | ⟨g1, g2, g3⟩ | ⟨g1, -⟩
      · exfalso; unfold wD at p2; omega
      · exfalso; omega
      · exact g1
    have hm : nv α 5 ≤ 10 := by unfold wD at *; omega
    refine ih.2.2.2.1 _ _ _ _ Ha ?_ ?_
    · rw [m4, m5, m6, m7, m8, s4, r4, s5, r5]
      exact ⟨⟨p1, p2, p3, p4, p5⟩, hd1, hm, Or.inl ⟨by omega, by omega, fun y hy hy2 => by omega⟩⟩
    · rw [m4, m8, s4, r4]; omega
set_option maxHeartbeats 16000000 in
set_option maxRecDepth 8000 in
theorem kh_wWay_h28 {l : Launch} {D : va_G} {tc : Nat → ClassId} {ad : Nat → Nat} {kd : Nat → Nat × Nat} {N : Nat} {sm : Nat → Nat} {xs : List av_X} {S : fw_S} {p : Program} {e : Env} {s : State} {m : MethodId} {args : Array Value} {below : List Frame} {meth : Method} {c : Code} {sz : Nat} {lvE : List (Nat × Value)} (G : hd_C wd_ff2 wd_fl2 kh_wWay [kh_wReach2, kh_streetBetween, kh_wOpen, kh_low] kh_wWay_y l D tc ad kd N sm xs p s m args meth c sz) (H0 : as_in ad sm wd_fl2 xs S kh_wWay.2.2.2.2.2.1 xs (hd_0 kh_wWay) lvE [] S) (hpre : P_wWay xs S) {k : Nat} (ih : kh_wWay_I l D tc ad kd N sm xs S p e s m args below meth c sz k) : (∀ (α : List av_X) (lv : List (Nat × Value)) (st : List Value) (S1 : fw_S), as_in ad sm wd_fl2 xs S kh_wWay.2.2.2.2.2.1 α kh_wWay_a28.2.2.1 lv st S1 → (wCom S1 (nv xs 1) (nv xs 2) (nv xs 3) (nv α 4) (nv α 5) ∧ 1 ≤ wD S1 (nv α 4) ∧ nv α 5 ≤ 10 ∧ (wA1 S1 (nv xs 3) (nv α 4) (nv α 6) (nv α 7) (nv α 8) ∨ wA2 S1 (nv xs 3) (nv α 4) (nv α 6) (nv α 7))) → 1000 * (wD S1 (nv α 4)).toNat + (nv α 8 + 1).toNat + 10 < k + 1 → hd_WR R_wWay wd_fl2 kh_wWay kh_wWay_y l D tc ad kd N sm xs S p e s m args below meth c sz 28 lv st S1 0) := by
  have hx : xs.length = 4 := by rw [H0.2.1.1]; rfl
  intro α lv st S1 H hp hk
  have bp := (en_nv (i := 5) H.2.1 rfl).2
  change 0 ≤ nv α 5 ∧ nv α 5 ≤ 11 at bp
  replace H := as_clamp (i := 5) (lo := 0) (hi := 10) H rfl rfl (by omega) (by exact hp.2.2.1) (by decide)
  obtain ⟨α1, hle, Hr⟩ := as_recM (pl := []) [] (by decide +kernel) H
  have hf := H.2.2.2.2.2.2.2.2.2.2.1
  have hl1 : α1.length = 9 := by rw [Hr.2.1.1]; rfl
  have hl0 : α.length = 9 := by rw [H.2.1.1]; rfl
  have hxa : al_le xs α1 := H.1.trans hle
  obtain ⟨g1, -, g3, g4, -⟩ := as_fx Hr
  have g0 : (805 ≤ nv α1 0 ∧ nv α1 0 ≤ 805) ∧ (0 ≤ nv α1 1 ∧ nv α1 1 ≤ 11) ∧ (0 ≤ nv α1 2 ∧ nv α1 2 ≤ 11) ∧ ((-2147483648) ≤ nv α1 3 ∧ nv α1 3 ≤ 2147483647) ∧ (0 ≤ nv α1 4 ∧ nv α1 4 ≤ 11) ∧ (0 ≤ nv α1 5 ∧ nv α1 5 ≤ 10) ∧ ((-1) ≤ nv α1 6 ∧ nv α1 6 ≤ 11) ∧ ((-1) ≤ nv α1 7 ∧ nv α1 7 ≤ 16) ∧ ((-1) ≤ nv α1 8 ∧ nv α1 8 ≤ 11) ∧ True := by
    refine ⟨by have h := (en_nv (i := 0) Hr.2.1 rfl).2; exact h, by have h := (en_nv (i := 1) Hr.2.1 rfl).2; exact h, by have h := (en_nv (i := 2) Hr.2.1 rfl).2; exact h, by have h := (en_nv (i := 3) Hr.2.1 rfl).2; exact h, by have h := (en_nv (i := 4) Hr.2.1 rfl).2; exact h, by have h := (en_nv (i := 5) Hr.2.1 rfl).2; exact h, by have h := (en_nv (i := 6) Hr.2.1 rfl).2; exact h, by have h := (en_nv (i := 7) Hr.2.1 rfl).2; exact h, by have h := (en_nv (i := 8) Hr.2.1 rfl).2; exact h, trivial⟩
  have r0 : nv α1 0 = nv α 0 := nv_le hle (by omega)
  have r1 : nv α1 1 = nv α 1 := nv_le hle (by omega)
  have r2 : nv α1 2 = nv α 2 := nv_le hle (by omega)
  have r3 : nv α1 3 = nv α 3 := nv_le hle (by omega)
  have r4 : nv α1 4 = nv α 4 := nv_le hle (by omega)
  have r5 : nv α1 5 = nv α 5 := nv_le hle (by omega)
  have r6 : nv α1 6 = nv α 6 := nv_le hle (by omega)
  have r7 : nv α1 7 = nv α 7 := nv_le hle (by omega)
  have r8 : nv α1 8 = nv α 8 := nv_le hle (by omega)
  refine hd_segMR G (na := 9) (fuel := 600) (first := true) (Bs := [kh_wWay_b28_0, kh_wWay_b28_1, kh_wWay_b28_2, kh_wWay_b28_3, kh_wWay_b28_4]) (by decide +kernel) hl1 Hr ?_
  intro q hq β lv' st' S' H1
  simp only [List.mem_cons, List.not_mem_nil, or_false] at hq
  rcases hq with rfl | rfl | rfl | rfl | rfl
  · obtain ⟨f1, f2, f3, f4, f5⟩ := as_fx H1
    simp only [kh_wWay_b28_0, fx_env, fx_c, fx_ne, fx_hf, wl_S, Nat.zero_add, Nat.reduceAdd, Nat.reduceDiv, Nat.reduceMod, List.getElem?_cons_zero, List.getElem?_cons_succ, if_true, and_true, true_and] at f1 f2 f3 f4 f5
    have fe0 : nv β 0 = 805 := by omega
    have fe8 : nv β 8 = (-1) := by omega
    try simp only [fe0, fe8, Int.reduceToNat] at f2 f3 f4 f5
    have s0 : nv β 0 = nv α1 0 := nv_le H1.1 (by omega)
    have s1 : nv β 1 = nv α1 1 := nv_le H1.1 (by omega)
    have s2 : nv β 2 = nv α1 2 := nv_le H1.1 (by omega)
    have s3 : nv β 3 = nv α1 3 := nv_le H1.1 (by omega)
    have s4 : nv β 4 = nv α1 4 := nv_le H1.1 (by omega)
    have s5 : nv β 5 = nv α1 5 := nv_le H1.1 (by omega)
    have s6 : nv β 6 = nv α1 6 := nv_le H1.1 (by omega)
    have s7 : nv β 7 = nv α1 7 := nv_le H1.1 (by omega)
    have s8 : nv β 8 = nv α1 8 := nv_le H1.1 (by omega)
    obtain ⟨α', Ha, hm⟩ := hd_gpM (q := kh_wWay_a91) (n := 0) (by decide +kernel) hx H1 (by decide +kernel) hxa hf
    have hfr := H1.2.2.2.2.2.2.2.2.2.2.1
    have m0 : nv α' 0 = nv β 0 := hm 0 0 rfl
    have m1 : nv α' 1 = nv β 1 := hm 1 1 rfl
    have m2 : nv α' 2 = nv β 2 := hm 2 2 rfl
    have m3 : nv α' 3 = nv β 3 := hm 3 3 rfl
    have m4 : nv α' 4 = nv β 4 := hm 4 4 rfl
    have m5 : nv α' 5 = nv β 5 := hm 5 5 rfl
    have m6 : nv α' 6 = nv β 6 := hm 6 6 rfl
    have m7 : nv α' 7 = nv β 7 := hm 7 7 rfl
    have m8 : nv α' 8 = nv β 8 := hm 8 8 rfl
    subst S'
    have z1 : nv α 1 = nv xs 1 := nv_le H.1 (by omega)
    have z2 : nv α 2 = nv xs 2 := nv_le H.1 (by omega)
    have z3 : nv α 3 = nv xs 3 := nv_le H.1 (by omega)
    obtain ⟨hc, hd1, hm, halt⟩ := hp
    have h2 : wA2 S1 (nv xs 3) (nv α 4) (nv α 6) (nv α 7) := by
      rcases halt with ⟨-, -, hn⟩ | h2
      · exfalso
        rcases hc.1.1 (nv α 4).toNat (by omega) with g | ⟨g1, g2, g3⟩ | ⟨g1, g2, t, t1, t2, t3⟩
        · have := hc.2.1; unfold wD at this; omega
        · unfold wD at hd1; omega
        · have b := lh_bd t t1
          rcases t3 with ⟨a, e⟩ | ⟨a, e⟩
          · exact hn (highI t).toNat (by omega) (by omega) ⟨t, t1, t2, Or.inl ⟨by omega, by omega⟩, e⟩
          · exact hn (lowI t).toNat (by omega) (by omega) ⟨t, t1, t2, Or.inr ⟨by omega, by omega⟩, e⟩
      · exact h2
    refine ih.2.2.2.2.1 _ _ _ _ Ha ?_ ?_
    · rw [m4, m5, m6, m7, s4, r4, s5, r5, s6, r6, s7, r7]
      exact ⟨hc, hm, h2⟩
    · rw [m4, s4, r4]; omega
  · obtain ⟨f1, f2, f3, f4, f5⟩ := as_fx H1
    simp only [kh_wWay_b28_1, fx_env, fx_c, fx_ne, fx_hf, wl_S, Nat.zero_add, Nat.reduceAdd, Nat.reduceDiv, Nat.reduceMod, List.getElem?_cons_zero, List.getElem?_cons_succ, if_true, and_true, true_and] at f1 f2 f3 f4 f5
    have fe0 : nv β 0 = 805 := by omega
    have fe9 : nv β 9 = (-1) := by omega
    have fe10 : nv β 10 = (-1) := by omega
    try simp only [fe0, fe9, fe10, Int.reduceToNat] at f2 f3 f4 f5
    have s0 : nv β 0 = nv α1 0 := nv_le H1.1 (by omega)
    have s1 : nv β 1 = nv α1 1 := nv_le H1.1 (by omega)
    have s2 : nv β 2 = nv α1 2 := nv_le H1.1 (by omega)
    have s3 : nv β 3 = nv α1 3 := nv_le H1.1 (by omega)
    have s4 : nv β 4 = nv α1 4 := nv_le H1.1 (by omega)
    have s5 : nv β 5 = nv α1 5 := nv_le H1.1 (by omega)
    have s6 : nv β 6 = nv α1 6 := nv_le H1.1 (by omega)
    have s7 : nv β 7 = nv α1 7 := nv_le H1.1 (by omega)
    have s8 : nv β 8 = nv α1 8 := nv_le H1.1 (by omega)
    obtain ⟨c0, c1⟩ := f2
    obtain ⟨α', Ha, hm⟩ := hd_gpM (q := kh_wWay_a28) (n := 0) (by decide +kernel) hx H1 (by decide +kernel) hxa hf
    have hfr := H1.2.2.2.2.2.2.2.2.2.2.1
    have m0 : nv α' 0 = nv β 0 := hm 0 0 rfl
    have m1 : nv α' 1 = nv β 1 := hm 1 1 rfl
    have m2 : nv α' 2 = nv β 2 := hm 2 2 rfl
    have m3 : nv α' 3 = nv β 3 := hm 3 3 rfl
    have m4 : nv α' 4 = nv β 4 := hm 4 4 rfl
    have m5 : nv α' 5 = nv β 5 := hm 5 5 rfl
    have m6 : nv α' 6 = nv β 6 := hm 6 6 rfl
    have m7 : nv α' 7 = nv β 7 := hm 7 7 rfl
    have m8 : nv α' 8 = nv β 11 := hm 8 11 rfl
    subst S'
    have d1 := fl2_b (by decide) c1
    simp only [wd_fl1, if_neg (show ¬ (wd_base 17 = true) by decide)] at d1
    have z1 : nv α 1 = nv xs 1 := nv_le H.1 (by omega)
    have z2 : nv α 2 = nv xs 2 := nv_le H.1 (by omega)
    have z3 : nv α 3 = nv xs 3 := nv_le H.1 (by omega)
    obtain ⟨hc, hd1, hm, halt⟩ := hp
    have hno : ¬ gdw S1 (nv xs 3) (nv β 4) (nv β 8).toNat := by
      rintro ⟨t, t1, t2, t3, t4⟩
      rcases d1 with ⟨-, g⟩ | ⟨g, -⟩
      · exact g t t1 (by rw [show (((nv β 8).toNat : Nat) : Int) = nv β 8 by omega] at t3; exact t3)
      · omega
    refine ih.2.2.2.1 _ _ _ _ Ha ?_ ?_
    · rw [m4, m5, m6, m7, m8, s5, r5, s6, r6, s7, r7]
      rw [← r4, ← s4] at hc hd1 halt
      refine ⟨hc, hd1, hm, ?_⟩
      rcases halt with ⟨g1, g2, g3⟩ | g
      · refine Or.inl ⟨g1, g2, fun y hy hy2 => ?_⟩
        by_cases e : y = (nv β 8).toNat
        · rw [e]; exact hno
        · exact g3 y (by omega) hy2
      · exact Or.inr g
    · rw [m4, m8, s4, r4]; omega
  · obtain ⟨f1, f2, f3, f4, f5⟩ := as_fx H1
    simp only [kh_wWay_b28_2, fx_env, fx_c, fx_ne, fx_hf, wl_S, Nat.zero_add, Nat.reduceAdd, Nat.reduceDiv, Nat.reduceMod, List.getElem?_cons_zero, List.getElem?_cons_succ, if_true, and_true, true_and] at f1 f2 f3 f4 f5
    have fe0 : nv β 0 = 805 := by omega
    have fe10 : nv β 10 = (-1) := by omega
    have fe11 : nv β 11 = 0 := by omega
    try simp only [fe0, fe10, fe11, Int.reduceToNat] at f2 f3 f4 f5
    have s0 : nv β 0 = nv α1 0 := nv_le H1.1 (by omega)
    have s1 : nv β 1 = nv α1 1 := nv_le H1.1 (by omega)
    have s2 : nv β 2 = nv α1 2 := nv_le H1.1 (by omega)
    have s3 : nv β 3 = nv α1 3 := nv_le H1.1 (by omega)
    have s4 : nv β 4 = nv α1 4 := nv_le H1.1 (by omega)
    have s5 : nv β 5 = nv α1 5 := nv_le H1.1 (by omega)
    have s6 : nv β 6 = nv α1 6 := nv_le H1.1 (by omega)
    have s7 : nv β 7 = nv α1 7 := nv_le H1.1 (by omega)
    have s8 : nv β 8 = nv α1 8 := nv_le H1.1 (by omega)
    obtain ⟨c0, c1, c2⟩ := f2
    obtain ⟨α', Ha, hm⟩ := hd_gpM (q := kh_wWay_a28) (n := 0) (by decide +kernel) hx H1 (by decide +kernel) hxa hf
    have hfr := H1.2.2.2.2.2.2.2.2.2.2.1
    have m0 : nv α' 0 = nv β 0 := hm 0 0 rfl
    have m1 : nv α' 1 = nv β 1 := hm 1 1 rfl
    have m2 : nv α' 2 = nv β 2 := hm 2 2 rfl
    have m3 : nv α' 3 = nv β 3 := hm 3 3 rfl
    have m4 : nv α' 4 = nv β 4 := hm 4 4 rfl
    have m5 : nv α' 5 = nv β 5 := hm 5 5 rfl
    have m6 : nv α' 6 = nv β 6 := hm 6 6 rfl
    have m7 : nv α' 7 = nv β 7 := hm 7 7 rfl
    have m8 : nv α' 8 = nv β 12 := hm 8 12 rfl
    subst S'
    have d0 := c0
    simp only [wd_fl2, if_neg (show ¬ (wd_base1 1021 = true) by decide)] at d0
    have d2 := fl2_b (by decide) c2
    simp only [wd_fl1, if_neg (show ¬ (wd_base 17 = true) by decide)] at d2
    have z1 : nv α 1 = nv xs 1 := nv_le H.1 (by omega)
    have z2 : nv α 2 = nv xs 2 := nv_le H.1 (by omega)
    have z3 : nv α 3 = nv xs 3 := nv_le H.1 (by omega)
    obtain ⟨hc, hd1, hm, halt⟩ := hp
    have hno : ¬ gdw S1 (nv xs 3) (nv β 4) (nv β 8).toNat := by
      rintro ⟨t, t1, t2, t3, t4⟩
      rcases d2 with ⟨g, -⟩ | ⟨g1, g2, g3⟩
      · omega
      rw [show (((nv β 8).toNat : Nat) : Int) = nv β 8 by omega] at t3
      have et := jn_uniq t1 (by omega) t3 g3
      refine b2i_0 (d0.symm.trans (by omega)) ?_
      rw [et, Int.toNat_of_nonneg g1, show nv xs 3 = nv β 3 by omega] at t2
      exact t2
    refine ih.2.2.2.1 _ _ _ _ Ha ?_ ?_
    · rw [m4, m5, m6, m7, m8, s5, r5, s6, r6, s7, r7]
      rw [← r4, ← s4] at hc hd1 halt
      refine ⟨hc, hd1, hm, ?_⟩
      rcases halt with ⟨g1, g2, g3⟩ | g
      · refine Or.inl ⟨g1, g2, fun y hy hy2 => ?_⟩
        by_cases e : y = (nv β 8).toNat
        · rw [e]; exact hno
        · exact g3 y (by omega) hy2
      · exact Or.inr g
    · rw [m4, m8, s4, r4]; omega
  · obtain ⟨f1, f2, f3, f4, f5⟩ := as_fx H1
    simp only [kh_wWay_b28_3, fx_env, fx_c, fx_ne, fx_hf, wl_S, Nat.zero_add, Nat.reduceAdd, Nat.reduceDiv, Nat.reduceMod, List.getElem?_cons_zero, List.getElem?_cons_succ, if_true, and_true, true_and] at f1 f2 f3 f4 f5
    have fe0 : nv β 0 = 805 := by omega
    have fe10 : nv β 10 = (-1) := by omega
    have fe11 : nv β 11 = 1 := by omega
    have fe12 : nv β 12 = 840 := by omega
    have fe14 : nv β 14 = 840 := by omega
    have fe16 : nv β 16 = 1 := by omega
    try simp only [fe0, fe10, fe11, fe12, fe14, fe16, Int.reduceToNat] at f2 f3 f4 f5
    have s0 : nv β 0 = nv α1 0 := nv_le H1.1 (by omega)
    have s1 : nv β 1 = nv α1 1 := nv_le H1.1 (by omega)
    have s2 : nv β 2 = nv α1 2 := nv_le H1.1 (by omega)
    have s3 : nv β 3 = nv α1 3 := nv_le H1.1 (by omega)
    have s4 : nv β 4 = nv α1 4 := nv_le H1.1 (by omega)
    have s5 : nv β 5 = nv α1 5 := nv_le H1.1 (by omega)
    have s6 : nv β 6 = nv α1 6 := nv_le H1.1 (by omega)
    have s7 : nv β 7 = nv α1 7 := nv_le H1.1 (by omega)
    have s8 : nv β 8 = nv α1 8 := nv_le H1.1 (by omega)
    obtain ⟨c0, c1, c2, c3, c4, c5, c6⟩ := f2
    obtain ⟨α', Ha, hm⟩ := hd_gpM (q := kh_wWay_a28) (n := 0) (by decide +kernel) hx H1 (by decide +kernel) hxa hf
    have hfr := H1.2.2.2.2.2.2.2.2.2.2.1
    have m0 : nv α' 0 = nv β 0 := hm 0 0 rfl
    have m1 : nv α' 1 = nv β 1 := hm 1 1 rfl
    have m2 : nv α' 2 = nv β 2 := hm 2 2 rfl
    have m3 : nv α' 3 = nv β 3 := hm 3 3 rfl
    have m4 : nv α' 4 = nv β 4 := hm 4 4 rfl
    have m5 : nv α' 5 = nv β 5 := hm 5 5 rfl
    have m6 : nv α' 6 = nv β 6 := hm 6 6 rfl
    have m7 : nv α' 7 = nv β 7 := hm 7 7 rfl
    have m8 : nv α' 8 = nv β 18 := hm 8 18 rfl
    subst S'
    have d4 := c4
    simp only [wd_fl2, if_neg (show ¬ (wd_base1 1021 = true) by decide)] at d4
    have d6 := fl2_b (by decide) c6
    simp only [wd_fl1, if_neg (show ¬ (wd_base 17 = true) by decide)] at d6
    have z1 : nv α 1 = nv xs 1 := nv_le H.1 (by omega)
    have z2 : nv α 2 = nv xs 2 := nv_le H.1 (by omega)
    have z3 : nv α 3 = nv xs 3 := nv_le H.1 (by omega)
    have o2 := old_0 c2 rfl
    have o3 := old_0 c3 rfl
    obtain ⟨hc, hd1, hm, halt⟩ := hp
    have hno : ¬ gdw S1 (nv xs 3) (nv β 4) (nv β 8).toNat := by
      rintro ⟨t, t1, t2, t3, t4⟩
      rcases d6 with ⟨g, -⟩ | ⟨g1, g2, g3⟩
      · omega
      rw [show (((nv β 8).toNat : Nat) : Int) = nv β 8 by omega] at t3
      have et := jn_uniq t1 (by omega) t3 g3
      unfold wD at t4
      omega
    refine ih.2.2.2.1 _ _ _ _ Ha ?_ ?_
    · rw [m4, m5, m6, m7, m8, s5, r5, s6, r6, s7, r7]
      rw [← r4, ← s4] at hc hd1 halt
      refine ⟨hc, hd1, hm, ?_⟩
      rcases halt with ⟨g1, g2, g3⟩ | g
      · refine Or.inl ⟨g1, g2, fun y hy hy2 => ?_⟩
        by_cases e : y = (nv β 8).toNat
        · rw [e]; exact hno
        · exact g3 y (by omega) hy2
      · exact Or.inr g
    · rw [m4, m8, s4, r4]; omega
  · obtain ⟨f1, f2, f3, f4, f5⟩ := as_fx H1
    simp only [kh_wWay_b28_4, fx_env, fx_c, fx_ne, fx_hf, wl_S, Nat.zero_add, Nat.reduceAdd, Nat.reduceDiv, Nat.reduceMod, List.getElem?_cons_zero, List.getElem?_cons_succ, if_true, and_true, true_and] at f1 f2 f3 f4 f5
    have fe0 : nv β 0 = 805 := by omega
    have fe10 : nv β 10 = (-1) := by omega
    have fe11 : nv β 11 = 1 := by omega
    have fe12 : nv β 12 = 840 := by omega
    have fe14 : nv β 14 = 840 := by omega
    have fe16 : nv β 16 = 1 := by omega
    try simp only [fe0, fe10, fe11, fe12, fe14, fe16, Int.reduceToNat] at f2 f3 f4 f5
    have s0 : nv β 0 = nv α1 0 := nv_le H1.1 (by omega)
    have s1 : nv β 1 = nv α1 1 := nv_le H1.1 (by omega)
    have s2 : nv β 2 = nv α1 2 := nv_le H1.1 (by omega)
    have s3 : nv β 3 = nv α1 3 := nv_le H1.1 (by omega)
    have s4 : nv β 4 = nv α1 4 := nv_le H1.1 (by omega)
    have s5 : nv β 5 = nv α1 5 := nv_le H1.1 (by omega)
    have s6 : nv β 6 = nv α1 6 := nv_le H1.1 (by omega)
    have s7 : nv β 7 = nv α1 7 := nv_le H1.1 (by omega)
    have s8 : nv β 8 = nv α1 8 := nv_le H1.1 (by omega)
    obtain ⟨c0, c1, c2, c3, c4, c5, c6⟩ := f2
    obtain ⟨α', Ha, hm⟩ := hd_gpM (q := kh_wWay_a28) (n := 0) (by decide +kernel) hx H1 (by decide +kernel) hxa hf
    have hfr := H1.2.2.2.2.2.2.2.2.2.2.1
    have m0 : nv α' 0 = nv β 0 := hm 0 0 rfl
    have m1 : nv α' 1 = nv β 1 := hm 1 1 rfl
    have m2 : nv α' 2 = nv β 2 := hm 2 2 rfl
    have m3 : nv α' 3 = nv β 3 := hm 3 3 rfl
    have m4 : nv α' 4 = nv β 4 := hm 4 4 rfl
    have m5 : nv α' 5 = nv β 5 := hm 5 5 rfl
    have m6 : nv α' 6 = nv β 8 := hm 6 8 rfl
    have m7 : nv α' 7 = nv β 9 := hm 7 9 rfl
    have m8 : nv α' 8 = nv β 18 := hm 8 18 rfl
    subst S'
    have d4 := c4
    simp only [wd_fl2, if_neg (show ¬ (wd_base1 1021 = true) by decide)] at d4
    have d6 := fl2_b (by decide) c6
    simp only [wd_fl1, if_neg (show ¬ (wd_base 17 = true) by decide)] at d6
    have z1 : nv α 1 = nv xs 1 := nv_le H.1 (by omega)
    have z2 : nv α 2 = nv xs 2 := nv_le H.1 (by omega)
    have z3 : nv α 3 = nv xs 3 := nv_le H.1 (by omega)
    have o2 := old_0 c2 rfl
    have o3 := old_0 c3 rfl
    obtain ⟨hc, hd1, hm, halt⟩ := hp
    rcases d6 with ⟨g, -⟩ | ⟨g1, g2, g3⟩
    · exfalso; omega
    have hop := b2i_1 (d4.symm.trans (by omega))
    refine ih.2.2.2.1 _ _ _ _ Ha ?_ ?_
    · rw [m4, m5, m6, m7, m8, s5, r5]
      rw [← r4, ← s4] at hc hd1
      refine ⟨hc, hd1, hm, Or.inr ⟨by omega, by omega, g1, g2, g3, ?_, ?_⟩⟩
      · rw [show nv xs 3 = nv β 3 by omega]; exact hop
      · unfold wD; omega
    · rw [m4, m8, s4, r4]; omega
set_option maxHeartbeats 16000000 in
set_option maxRecDepth 8000 in
theorem kh_wWay_h91 {l : Launch} {D : va_G} {tc : Nat → ClassId} {ad : Nat → Nat} {kd : Nat → Nat × Nat} {N : Nat} {sm : Nat → Nat} {xs : List av_X} {S : fw_S} {p : Program} {e : Env} {s : State} {m : MethodId} {args : Array Value} {below : List Frame} {meth : Method} {c : Code} {sz : Nat} {lvE : List (Nat × Value)} (G : hd_C wd_ff2 wd_fl2 kh_wWay [kh_wReach2, kh_streetBetween, kh_wOpen, kh_low] kh_wWay_y l D tc ad kd N sm xs p s m args meth c sz) (H0 : as_in ad sm wd_fl2 xs S kh_wWay.2.2.2.2.2.1 xs (hd_0 kh_wWay) lvE [] S) (hpre : P_wWay xs S) {k : Nat} (ih : kh_wWay_I l D tc ad kd N sm xs S p e s m args below meth c sz k) : (∀ (α : List av_X) (lv : List (Nat × Value)) (st : List Value) (S1 : fw_S), as_in ad sm wd_fl2 xs S kh_wWay.2.2.2.2.2.1 α kh_wWay_a91.2.2.1 lv st S1 → (wCom S1 (nv xs 1) (nv xs 2) (nv xs 3) (nv α 4) (nv α 5) ∧ nv α 5 ≤ 10 ∧ wA2 S1 (nv xs 3) (nv α 4) (nv α 6) (nv α 7)) → 1000 * (wD S1 (nv α 4)).toNat + 5 < k + 1 → hd_WR R_wWay wd_fl2 kh_wWay kh_wWay_y l D tc ad kd N sm xs S p e s m args below meth c sz 91 lv st S1 0) := by
  have hx : xs.length = 4 := by rw [H0.2.1.1]; rfl
  intro α lv st S1 H hp hk
  have bp := (en_nv (i := 6) H.2.1 rfl).2
  change (-1) ≤ nv α 6 ∧ nv α 6 ≤ 11 at bp
  replace H := as_clamp (i := 6) (lo := 0) (hi := 11) H rfl rfl (by exact hp.2.2.1) (by exact hp.2.2.2.1) (by decide)
  have bp := (en_nv (i := 7) H.2.1 rfl).2
  change (-1) ≤ nv α 7 ∧ nv α 7 ≤ 16 at bp
  replace H := as_clamp (i := 7) (lo := 0) (hi := 16) H rfl rfl (by exact hp.2.2.2.2.1) (by exact hp.2.2.2.2.2.1) (by decide)
  obtain ⟨α1, hle, Hr⟩ := as_recM (pl := []) [((841, 841), (0, 10, 1))] (by decide +kernel) H
  have hf := H.2.2.2.2.2.2.2.2.2.2.1
  have hl1 : α1.length = 9 := by rw [Hr.2.1.1]; rfl
  have hl0 : α.length = 9 := by rw [H.2.1.1]; rfl
  have hxa : al_le xs α1 := H.1.trans hle
  obtain ⟨g1, -, g3, g4, -⟩ := as_fx Hr
  have g0 : (805 ≤ nv α1 0 ∧ nv α1 0 ≤ 805) ∧ (0 ≤ nv α1 1 ∧ nv α1 1 ≤ 11) ∧ (0 ≤ nv α1 2 ∧ nv α1 2 ≤ 11) ∧ ((-2147483648) ≤ nv α1 3 ∧ nv α1 3 ≤ 2147483647) ∧ (0 ≤ nv α1 4 ∧ nv α1 4 ≤ 11) ∧ (0 ≤ nv α1 5 ∧ nv α1 5 ≤ 10) ∧ (0 ≤ nv α1 6 ∧ nv α1 6 ≤ 11) ∧ (0 ≤ nv α1 7 ∧ nv α1 7 ≤ 16) ∧ ((-1) ≤ nv α1 8 ∧ nv α1 8 ≤ (-1)) ∧ True := by
    refine ⟨by have h := (en_nv (i := 0) Hr.2.1 rfl).2; exact h, by have h := (en_nv (i := 1) Hr.2.1 rfl).2; exact h, by have h := (en_nv (i := 2) Hr.2.1 rfl).2; exact h, by have h := (en_nv (i := 3) Hr.2.1 rfl).2; exact h, by have h := (en_nv (i := 4) Hr.2.1 rfl).2; exact h, by have h := (en_nv (i := 5) Hr.2.1 rfl).2; exact h, by have h := (en_nv (i := 6) Hr.2.1 rfl).2; exact h, by have h := (en_nv (i := 7) Hr.2.1 rfl).2; exact h, by have h := (en_nv (i := 8) Hr.2.1 rfl).2; exact h, trivial⟩
  have r0 : nv α1 0 = nv α 0 := nv_le hle (by omega)
  have r1 : nv α1 1 = nv α 1 := nv_le hle (by omega)
  have r2 : nv α1 2 = nv α 2 := nv_le hle (by omega)
  have r3 : nv α1 3 = nv α 3 := nv_le hle (by omega)
  have r4 : nv α1 4 = nv α 4 := nv_le hle (by omega)
  have r5 : nv α1 5 = nv α 5 := nv_le hle (by omega)
  have r6 : nv α1 6 = nv α 6 := nv_le hle (by omega)
  have r7 : nv α1 7 = nv α 7 := nv_le hle (by omega)
  have r8 : nv α1 8 = nv α 8 := nv_le hle (by omega)
  refine hd_segMR G (na := 9) (fuel := 600) (first := true) (Bs := [kh_wWay_b91_0, kh_wWay_b91_1]) (by decide +kernel) hl1 Hr ?_
  intro q hq β lv' st' S' H1
  simp only [List.mem_cons, List.not_mem_nil, or_false] at hq
  rcases hq with rfl | rfl
  · obtain ⟨f1, f2, f3, f4, f5⟩ := as_fx H1
    simp only [kh_wWay_b91_0, fx_env, fx_c, fx_ne, fx_hf, wl_S, Nat.zero_add, Nat.reduceAdd, Nat.reduceDiv, Nat.reduceMod, List.getElem?_cons_zero, List.getElem?_cons_succ, if_true, and_true, true_and] at f1 f2 f3 f4 f5
    have fe0 : nv β 0 = 805 := by omega
    have fe8 : nv β 8 = (-1) := by omega
    have fe9 : nv β 9 = 841 := by omega
    have fe10 : nv β 10 = 2 := by omega
    have fe13 : nv β 13 = 1 := by omega
    try simp only [fe0, fe8, fe9, fe10, fe13, Int.reduceToNat] at f2 f3 f4 f5
    have s0 : nv β 0 = nv α1 0 := nv_le H1.1 (by omega)
    have s1 : nv β 1 = nv α1 1 := nv_le H1.1 (by omega)
    have s2 : nv β 2 = nv α1 2 := nv_le H1.1 (by omega)
    have s3 : nv β 3 = nv α1 3 := nv_le H1.1 (by omega)
    have s4 : nv β 4 = nv α1 4 := nv_le H1.1 (by omega)
    have s5 : nv β 5 = nv α1 5 := nv_le H1.1 (by omega)
    have s6 : nv β 6 = nv α1 6 := nv_le H1.1 (by omega)
    have s7 : nv β 7 = nv α1 7 := nv_le H1.1 (by omega)
    have s8 : nv β 8 = nv α1 8 := nv_le H1.1 (by omega)
    obtain ⟨c0, c1, c2, c3⟩ := f2
    obtain ⟨α', Ha, hm⟩ := hd_gpM (q := kh_wWay_a12) (n := 0) (by decide +kernel) hx H1 (by decide +kernel) hxa hf
    have hfr := H1.2.2.2.2.2.2.2.2.2.2.1
    have m0 : nv α' 0 = nv β 0 := hm 0 0 rfl
    have m1 : nv α' 1 = nv β 1 := hm 1 1 rfl
    have m2 : nv α' 2 = nv β 2 := hm 2 2 rfl
    have m3 : nv α' 3 = nv β 3 := hm 3 3 rfl
    have m4 : nv α' 4 = nv β 6 := hm 4 6 rfl
    have m5 : nv α' 5 = nv β 15 := hm 5 15 rfl
    subst S'
    have z1 : nv α 1 = nv xs 1 := nv_le H.1 (by omega)
    have z2 : nv α 2 = nv xs 2 := nv_le H.1 (by omega)
    have z3 : nv α 3 = nv xs 3 := nv_le H.1 (by omega)
    have d2 := fl1_b (by decide) (fl2_b (by decide) c2)
    simp only [wd_fl] at d2
    have hrg : ∀ j : Nat, j < 12 → 0 ≤ (S1.1 840 j).toInt ∧ (S1.1 840 j).toInt ≤ 99 := fun j hj => rg_bd (q_rg_in (q := ((840, 840), (0, 11, 1), (0, 0, 99, 1))) (by decide +kernel) H) (by omega)
    obtain ⟨⟨p1, p2, p3, p4, p5⟩, hm, q1, q2, q3, q4, q5, q6, q7⟩ := hp
    have e0 : (fw_i S1 841 (nv β 5).toNat (Int32.ofInt (nv β 14))).1 840 = S1.1 840 := fw_i_ne (by decide)
    have e6 : (fw_i S1 841 (nv β 5).toNat (Int32.ofInt (nv β 14))).1 806 = S1.1 806 := fw_i_ne (by decide)
    have e9 : (fw_i S1 841 (nv β 5).toNat (Int32.ofInt (nv β 14))).1 839 = S1.1 839 := fw_i_ne (by decide)
    have hv2 : nv β 14 / 2 = nv α 7 := by omega
    have eD : ∀ y : Int, wD (fw_i S1 841 (nv β 5).toNat (Int32.ofInt (nv β 14))) y = wD S1 y := fun y => by unfold wD; rw [e0]
    refine ih.2.2.1 _ _ _ _ Ha ?_ ?_
    · rw [m4, m5, s6, r6]
      refine ⟨wDs_eq (by omega) e0 e6 e9 p1, by rw [eD]; omega, by rw [eD, eD]; omega, by rw [eD]; exact p4, fun k hk2 => ?_⟩
      rw [eD]
      by_cases e : k = (nv β 5).toNat
      · have ev : ((fw_i S1 841 (nv β 5).toNat (Int32.ofInt (nv β 14))).1 841 k).toInt = nv β 14 := by rw [e, fw_i_row, if_pos rfl, i32_of (by omega) (by omega)]
        unfold wPth wRm lkv
        rw [ev, hv2, e0, e6, e9]
        refine ⟨by omega, by omega, q6.2.1, ?_⟩
        have en : (((nv α 7).toNat : Nat) : Int) = nv α 7 := Int.toNat_of_nonneg q3
        unfold wD at *
        rcases q5 with ⟨a, b⟩ | ⟨a, b⟩
        · rw [en] at a b
          rw [a, b]
          omega
        · rw [en] at a b
          rw [a, b]
          omega
      · exact wPth_eq e0 e6 e9 (by rw [fw_i_row, if_neg e]) (p5 k (by omega))
    · rw [m4, s6, r6]
      have := eD (nv α 6)
      have hr6 := hrg (nv α 6).toNat (by omega)
      unfold wD at *
      rw [this]
      omega
  · obtain ⟨f1, f2, f3, f4, f5⟩ := as_fx H1
    simp only [kh_wWay_b91_1, fx_env, fx_c, fx_ne, fx_hf, wl_S, Nat.zero_add, Nat.reduceAdd, Nat.reduceDiv, Nat.reduceMod, List.getElem?_cons_zero, List.getElem?_cons_succ, if_true, and_true, true_and] at f1 f2 f3 f4 f5
    have fe0 : nv β 0 = 805 := by omega
    have fe8 : nv β 8 = (-1) := by omega
    have fe9 : nv β 9 = 841 := by omega
    have fe10 : nv β 10 = 2 := by omega
    have fe13 : nv β 13 = 0 := by omega
    try simp only [fe0, fe8, fe9, fe10, fe13, Int.reduceToNat] at f2 f3 f4 f5
    have s0 : nv β 0 = nv α1 0 := nv_le H1.1 (by omega)
    have s1 : nv β 1 = nv α1 1 := nv_le H1.1 (by omega)
    have s2 : nv β 2 = nv α1 2 := nv_le H1.1 (by omega)
    have s3 : nv β 3 = nv α1 3 := nv_le H1.1 (by omega)
    have s4 : nv β 4 = nv α1 4 := nv_le H1.1 (by omega)
    have s5 : nv β 5 = nv α1 5 := nv_le H1.1 (by omega)
    have s6 : nv β 6 = nv α1 6 := nv_le H1.1 (by omega)
    have s7 : nv β 7 = nv α1 7 := nv_le H1.1 (by omega)
    have s8 : nv β 8 = nv α1 8 := nv_le H1.1 (by omega)
    obtain ⟨c0, c1, c2, c3⟩ := f2
    obtain ⟨α', Ha, hm⟩ := hd_gpM (q := kh_wWay_a12) (n := 0) (by decide +kernel) hx H1 (by decide +kernel) hxa hf
    have hfr := H1.2.2.2.2.2.2.2.2.2.2.1
    have m0 : nv α' 0 = nv β 0 := hm 0 0 rfl
    have m1 : nv α' 1 = nv β 1 := hm 1 1 rfl
    have m2 : nv α' 2 = nv β 2 := hm 2 2 rfl
    have m3 : nv α' 3 = nv β 3 := hm 3 3 rfl
    have m4 : nv α' 4 = nv β 6 := hm 4 6 rfl
    have m5 : nv α' 5 = nv β 15 := hm 5 15 rfl
    subst S'
    have z1 : nv α 1 = nv xs 1 := nv_le H.1 (by omega)
    have z2 : nv α 2 = nv xs 2 := nv_le H.1 (by omega)
    have z3 : nv α 3 = nv xs 3 := nv_le H.1 (by omega)
    have d2 := fl1_b (by decide) (fl2_b (by decide) c2)
    simp only [wd_fl] at d2
    have hrg : ∀ j : Nat, j < 12 → 0 ≤ (S1.1 840 j).toInt ∧ (S1.1 840 j).toInt ≤ 99 := fun j hj => rg_bd (q_rg_in (q := ((840, 840), (0, 11, 1), (0, 0, 99, 1))) (by decide +kernel) H) (by omega)
    obtain ⟨⟨p1, p2, p3, p4, p5⟩, hm, q1, q2, q3, q4, q5, q6, q7⟩ := hp
    have e0 : (fw_i S1 841 (nv β 5).toNat (Int32.ofInt (nv β 14))).1 840 = S1.1 840 := fw_i_ne (by decide)
    have e6 : (fw_i S1 841 (nv β 5).toNat (Int32.ofInt (nv β 14))).1 806 = S1.1 806 := fw_i_ne (by decide)
    have e9 : (fw_i S1 841 (nv β 5).toNat (Int32.ofInt (nv β 14))).1 839 = S1.1 839 := fw_i_ne (by decide)
    have hv2 : nv β 14 / 2 = nv α 7 := by omega
    have eD : ∀ y : Int, wD (fw_i S1 841 (nv β 5).toNat (Int32.ofInt (nv β 14))) y = wD S1 y := fun y => by unfold wD; rw [e0]
    refine ih.2.2.1 _ _ _ _ Ha ?_ ?_
    · rw [m4, m5, s6, r6]
      refine ⟨wDs_eq (by omega) e0 e6 e9 p1, by rw [eD]; omega, by rw [eD, eD]; omega, by rw [eD]; exact p4, fun k hk2 => ?_⟩
      rw [eD]
      by_cases e : k = (nv β 5).toNat
      · have ev : ((fw_i S1 841 (nv β 5).toNat (Int32.ofInt (nv β 14))).1 841 k).toInt = nv β 14 := by rw [e, fw_i_row, if_pos rfl, i32_of (by omega) (by omega)]
        unfold wPth wRm lkv
        rw [ev, hv2, e0, e6, e9]
        refine ⟨by omega, by omega, q6.2.1, ?_⟩
        have en : (((nv α 7).toNat : Nat) : Int) = nv α 7 := Int.toNat_of_nonneg q3
        unfold wD at *
        rcases q5 with ⟨a, b⟩ | ⟨a, b⟩
        · rw [en] at a b
          rw [a, b]
          omega
        · rw [en] at a b
          rw [a, b]
          omega
      · exact wPth_eq e0 e6 e9 (by rw [fw_i_row, if_neg e]) (p5 k (by omega))
    · rw [m4, s6, r6]
      have := eD (nv α 6)
      have hr6 := hrg (nv α 6).toNat (by omega)
      unfold wD at *
      rw [this]
      omega
set_option maxHeartbeats 16000000 in
set_option maxRecDepth 8000 in
theorem kh_wWay_okP : ct_okPR wd_fl2 kh_wWay P_wWay R_wWay := ct_handPR (P := P_wWay) (R := R_wWay) (ff := wd_ff2) (y := kh_wWay_y) (Cs := [kh_wReach2, kh_streetBetween, kh_wOpen, kh_low]) wd_fl2_ok rfl (List.forall_mem_cons.mpr ⟨kh_wReach2_ok, (List.forall_mem_cons.mpr ⟨kh_streetBetween_l2, (List.forall_mem_cons.mpr ⟨kh_wOpen_ok, (List.forall_mem_cons.mpr ⟨kh_low_l2, (List.forall_mem_nil _)⟩)⟩)⟩)⟩) (by decide +kernel) (fun l D tc ad kd N sm xs S p e s m args below meth c sz lv G H0 hpre => by
  have hx : xs.length = 4 := by rw [H0.2.1.1]; rfl
  have hP : ∀ (k : Nat), kh_wWay_I l D tc ad kd N sm xs S p e s m args below meth c sz k := by
    intro k
    induction k with
    | zero => exact ⟨fun _ _ _ _ _ _ h => absurd h (Nat.not_lt_zero _), fun _ _ _ _ _ _ h => absurd h (Nat.not_lt_zero _), fun _ _ _ _ _ _ h => absurd h (Nat.not_lt_zero _), fun _ _ _ _ _ _ h => absurd h (Nat.not_lt_zero _), fun _ _ _ _ _ _ h => absurd h (Nat.not_lt_zero _), trivial⟩
    | succ k ih => exact ⟨kh_wWay_h3 G H0 hpre ih, kh_wWay_h6 G H0 hpre ih, kh_wWay_h12 G H0 hpre ih, kh_wWay_h28 G H0 hpre ih, kh_wWay_h91 G H0 hpre ih, trivial⟩
  obtain ⟨α1, hle, Hr⟩ := as_recM (pl := []) [] (by decide +kernel) H0
  have hf := H0.2.2.2.2.2.2.2.2.2.2.1
  have hl1 : α1.length = 4 := by rw [Hr.2.1.1]; rfl
  have hl0 : xs.length = 4 := by rw [H0.2.1.1]; rfl
  have hxa : al_le xs α1 := H0.1.trans hle
  obtain ⟨g1, -, g3, g4, -⟩ := as_fx Hr
  have g0 : (805 ≤ nv α1 0 ∧ nv α1 0 ≤ 805) ∧ (0 ≤ nv α1 1 ∧ nv α1 1 ≤ 11) ∧ (0 ≤ nv α1 2 ∧ nv α1 2 ≤ 11) ∧ ((-2147483648) ≤ nv α1 3 ∧ nv α1 3 ≤ 2147483647) ∧ True := by
    refine ⟨by have h := (en_nv (i := 0) Hr.2.1 rfl).2; exact h, by have h := (en_nv (i := 1) Hr.2.1 rfl).2; exact h, by have h := (en_nv (i := 2) Hr.2.1 rfl).2; exact h, by have h := (en_nv (i := 3) Hr.2.1 rfl).2; exact h, trivial⟩
  have r0 : nv α1 0 = nv xs 0 := nv_le hle (by omega)
  have r1 : nv α1 1 = nv xs 1 := nv_le hle (by omega)
  have r2 : nv α1 2 = nv xs 2 := nv_le hle (by omega)
  have r3 : nv α1 3 = nv xs 3 := nv_le hle (by omega)
  refine hd_segMR G (na := 4) (fuel := 600) (first := true) (Bs := [kh_wWay_b0_0]) (by decide +kernel) hl1 Hr ?_
  intro q hq β lv' st' S' H1
  simp only [List.mem_cons, List.not_mem_nil, or_false] at hq
  rcases hq with rfl
  · obtain ⟨f1, f2, f3, f4, f5⟩ := as_fx H1
    simp only [kh_wWay_b0_0, fx_env, fx_c, fx_ne, fx_hf, wl_S, Nat.zero_add, Nat.reduceAdd, Nat.reduceDiv, Nat.reduceMod, List.getElem?_cons_zero, List.getElem?_cons_succ, if_true, and_true, true_and] at f1 f2 f3 f4 f5
    have fe0 : nv β 0 = 805 := by omega
    try simp only [fe0, Int.reduceToNat] at f2 f3 f4 f5
    have s0 : nv β 0 = nv α1 0 := nv_le H1.1 (by omega)
    have s1 : nv β 1 = nv α1 1 := nv_le H1.1 (by omega)
    have s2 : nv β 2 = nv α1 2 := nv_le H1.1 (by omega)
    have s3 : nv β 3 = nv α1 3 := nv_le H1.1 (by omega)
    obtain ⟨α', Ha, hm⟩ := hd_gpM (q := kh_wWay_a3) (n := 0) (by decide +kernel) hx H1 (by decide +kernel) hxa hf
    have hfr := H1.2.2.2.2.2.2.2.2.2.2.1
    have m0 : nv α' 0 = nv β 0 := hm 0 0 rfl
    have m1 : nv α' 1 = nv β 1 := hm 1 1 rfl
    have m2 : nv α' 2 = nv β 2 := hm 2 2 rfl
    have m3 : nv α' 3 = nv β 3 := hm 3 3 rfl
    subst S'
    refine (hP _).1 _ _ _ _ Ha ?_ (Nat.lt_succ_self _)
    · trivial)
