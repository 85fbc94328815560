/-! ===== Math.floorMod by 10000 ===== -/
theorem fm_xor {x y : Int32} : (x ^^^ y).toInt < 0 ↔ ¬ (x.toInt < 0 ↔ y.toInt < 0) := by
  have h : (x ^^^ y).toBitVec.msb = (x.toBitVec.msb ^^ y.toBitVec.msb) := by rw [Int32.toBitVec_xor, BitVec.msb_xor]
  rw [BitVec.msb_eq_toInt, BitVec.msb_eq_toInt, BitVec.msb_eq_toInt] at h
  show (x ^^^ y).toBitVec.toInt < 0 ↔ ¬ (x.toBitVec.toInt < 0 ↔ y.toBitVec.toInt < 0)
  generalize (x ^^^ y).toBitVec.toInt = A at h ⊢
  generalize x.toBitVec.toInt = B at h ⊢
  generalize y.toBitVec.toInt = C at h ⊢
  by_cases hA : A < 0 <;> by_cases hB : B < 0 <;> by_cases hC : C < 0 <;> simp [hA, hB, hC] at h ⊢
theorem fm_rem {X Y : Int32} (hY : Y.toInt = 10000) : (0 ≤ X.toInt → 0 ≤ (X - X / Y * Y).toInt ∧ (X - X / Y * Y).toInt ≤ 9999) ∧ (X.toInt < 0 → -9999 ≤ (X - X / Y * Y).toInt ∧ (X - X / Y * Y).toInt ≤ 0) := by
  have h := av_rem_eq (x := X) (y := Y) (by omega)
  rw [h, hY]
  obtain ⟨t1, t2⟩ := av_tmod (x := X.toInt) (y := 10000) (by decide)
  have b1 := Int.tmod_lt_of_pos X.toInt (b := 10000) (by decide)
  refine ⟨fun h => ⟨(t1 h).1, by omega⟩, fun h => ⟨?_, (t2 h).2⟩⟩
  have n1 : (-X.toInt).tmod 10000 = -(X.toInt.tmod 10000) := Int.neg_tmod _ _
  have b2 := Int.tmod_lt_of_pos (-X.toInt) (b := 10000) (by decide)
  omega
abbrev kh_floorMod_y : mt_T := (⟨"java/lang/Math", "floorMod", "(II)I"⟩, prog_20_method_50_code, 3, some .int, 16, 0, 2, 26194, 26193, 0, 21021)
def kh_floorMod : ct_T := (675, [(0, (-2147483648), 2147483647, 1), (0, 10000, 10000, 0)], [], [], [(1, (0, 0, 9999, 1), [(0, (-2147483648), 2147483647, 1), (0, 10000, 10000, 0)], [], ([], []))], [], 0, 0, 0)
theorem kh_floorMod_ok : ct_ok wd_fl2 kh_floorMod := ct_hand (ff := wd_ff2) (y := kh_floorMod_y) (Cs := []) wd_fl2_ok rfl (List.forall_mem_nil _) (by decide +kernel) (fun l D tc ad kd N sm xs S p e s m args below meth c sz lv G H0 => by
  obtain ⟨x0, e0, l0⟩ := H0.2.2.1 (0, 0) (by decide)
  obtain ⟨x1, e1, l1⟩ := H0.2.2.1 (1, 1) (by decide)
  have n0 := en_nv (i := 0) H0.2.1 rfl
  have n1 := en_nv (i := 1) H0.2.1 rfl
  have q0 : x0 = (0, nv xs 0) := Option.some.inj (e0.symm.trans n0.1)
  have q1 : x1 = (0, nv xs 1) := Option.some.inj (e1.symm.trans n1.1)
  have hy : nv xs 1 = 10000 := by
    have h := n1.2
    change 10000 ≤ nv xs 1 ∧ nv xs 1 ≤ 10000 at h
    omega
  subst q0 q1
  rw [hy] at l1
  obtain ⟨X, hX⟩ : ∃ X : Int32, X = Int32.ofInt (nv xs 0) := ⟨_, rfl⟩
  obtain ⟨Y, hY⟩ : ∃ Y : Int32, Y = Int32.ofInt 10000 := ⟨_, rfl⟩
  have l0' : ((0 : Nat), Value.int X) ∈ lv := by rw [hX]; exact l0
  have l1' : ((1 : Nat), Value.int Y) ∈ lv := by rw [hY]; exact l1
  have hY1 : Y.toInt = 10000 := by rw [hY]; rfl
  have fin : ∀ v : Int32, 0 ≤ v.toInt → v.toInt ≤ 9999 → ct_post ad sm wd_fl2 kh_floorMod.2.2.2.2.2.1 kh_floorMod.2.2.2.2.1 xs S (.inl (some (.int v))) S := fun v h1 h2 =>
    ⟨_, List.mem_cons_self, ⟨(0, v.toInt), by show _ = Sum.inl (some (Value.int (Int32.ofInt v.toInt))); rw [Int32.ofInt_toInt], ⟨rfl, ⟨by dsimp only; omega, by dsimp only; omega⟩, h1, h2, av_one _⟩⟩, H0.2.1, (fun _ h => nomatch h), (fun _ h => nomatch h), (fun _ h => nomatch h), H0.2.2.2.2.2.2.2.2.2.1, H0.2.2.2.2.2.2.2.2.2.2.1⟩
  obtain ⟨r1, r2⟩ := fm_rem (X := X) hY1
  obtain ⟨R, hR⟩ : ∃ R : Int32, R = X - X / Y * Y := ⟨_, rfl⟩
  rw [← hR] at r1 r2
  have hx := fm_xor (x := X) (y := Y)
  unfold hd_W
  refine fw_iload_n (i := 0) G.1 l0' (by decide +kernel) ?_
  refine fw_iload_n (i := 1) G.1 l1' (by decide +kernel) ?_
  refine fw_irem G.1 (by rw [hY]; decide) (by decide +kernel) ?_
  rw [← hR]
  refine fw_istore_n (i := 2) (k0 := 2) G.1 rfl (by decide) (by decide +kernel) ?_
  have m0 : ((0 : Nat), Value.int X) ∈ fw_st1 lv 2 (.int R) := List.mem_cons_of_mem _ (List.mem_filter.mpr ⟨l0', rfl⟩)
  have m1 : ((1 : Nat), Value.int Y) ∈ fw_st1 lv 2 (.int R) := List.mem_cons_of_mem _ (List.mem_filter.mpr ⟨l1', rfl⟩)
  have m2 : ((2 : Nat), Value.int R) ∈ fw_st1 lv 2 (.int R) := List.mem_cons_self
  refine fw_iload_n (i := 0) G.1 m0 (by decide +kernel) ?_
  refine fw_iload_n (i := 1) G.1 m1 (by decide +kernel) ?_
  refine fw_ixor G.1 (by decide +kernel) ?_
  have hz : ∀ z : Int32, 0 ≤ z → 0 ≤ z.toInt := fun z h => Int32.le_iff_toInt_le.mp h
  refine fw_if_ge (off := 11) (tgt := 18) G.1 (by decide +kernel) (by decide +kernel) (fun h => ?_) (fun h => ?_)
  · have h0 := hz _ h
    have hX0 : 0 ≤ X.toInt := by omega
    refine fw_iload_n (i := 2) G.1 m2 (by decide +kernel) ?_
    exact fw_iret G.1 G.2.1 G.2.2.2.2.2.2.1 (Nat.le_refl _) (fin R (r1 hX0).1 (r1 hX0).2) (by decide +kernel)
  · have h0 : (X ^^^ Y).toInt < 0 := Int.not_le.mp fun g => h (Int32.le_iff_toInt_le.mpr g)
    have hX0 : X.toInt < 0 := by omega
    refine fw_iload_n (i := 2) G.1 m2 (by decide +kernel) ?_
    refine fw_if_eq (off := 7) (tgt := 18) G.1 (by decide +kernel) (by decide +kernel) (fun g => ?_) (fun g => ?_)
    · refine fw_iload_n (i := 2) G.1 m2 (by decide +kernel) ?_
      have g0 : R.toInt = 0 := by rw [g]; rfl
      exact fw_iret G.1 G.2.1 G.2.2.2.2.2.2.1 (Nat.le_refl _) (fin R (by omega) (by omega)) (by decide +kernel)
    · have g0 : R.toInt ≠ 0 := fun q => g (Int32.toInt_inj.mp (q.trans rfl))
      refine fw_iload_n (i := 2) G.1 m2 (by decide +kernel) ?_
      refine fw_iload_n (i := 1) G.1 m1 (by decide +kernel) ?_
      refine fw_iadd G.1 (by decide +kernel) ?_
      have a0 : (R + Y).toInt = R.toInt + 10000 := by
        have := r2 hX0
        rw [Int32.toInt_add, hY1]
        exact Int.bmod_eq_of_le (by omega) (by omega)
      have := r2 hX0
      exact fw_iret G.1 G.2.1 G.2.2.2.2.2.2.1 (Nat.le_refl _) (fin _ (by omega) (by omega)) (by decide +kernel))
