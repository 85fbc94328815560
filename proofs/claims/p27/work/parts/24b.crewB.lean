/-! ===== the class: the best job, what a spell does ===== -/
def wkI (S S1 : fw_S) (crew n k : Int) : Prop := 0 ≤ k ∧ (0 ≤ n → k ≤ n ∧ ∃ p : Int → Int, (∀ j : Int, 0 ≤ j → j ≤ n → 0 ≤ p j ∧ p j ≤ 11 ∧ yF S (p j) = j) ∧ (∀ j : Int, 0 ≤ j → j < n → othT (yT S1 j) (p j) = p (j + 1)) ∧ (S1.1 (574 + crew.toNat) 0).toInt = p k)
theorem wk_start {S S1 : fw_S} {crew n a A : Int} (hw : wyF S) (ht : trI (yF S) (yT S1) n (-1) a) (hA : 0 ≤ A ∧ A ≤ 11) (h0 : yF S A = 0) (hn : 0 ≤ n) (hAT : (S1.1 (574 + crew.toNat) 0).toInt = A) : wkI S S1 crew n 0 := by
  obtain ⟨p, -, p2, p3⟩ := ht
  obtain ⟨st, s1, s2, s3⟩ := hw
  refine ⟨Int.le_refl _, fun _ => ⟨hn, p, fun j h1 h2 => p2 j (by omega) h2, fun j h1 h2 => p3 j (by omega) h2, ?_⟩⟩
  have q0 := p2 0 (by omega) hn
  have e1 := (s3 (p 0) q0.1 q0.2.1).2.1 q0.2.2
  have e2 := (s3 A hA.1 hA.2).2.1 h0
  rw [hAT, e1, e2]
theorem wk_next {S S1 : fw_S} {crew n k v : Int} (h : wkI S S1 crew n k) (hk : k < n) (hv : v = othT (yT S1 k) ((S1.1 (574 + crew.toNat) 0).toInt)) : (0 ≤ v ∧ v ≤ 11) ∧ ∀ S2 : fw_S, (∀ j, yT S2 j = yT S1 j) → (S2.1 (574 + crew.toNat) 0).toInt = v → wkI S S2 crew n (k + 1) := by
  obtain ⟨h0, h1⟩ := h
  obtain ⟨h2, p, p1, p2, p3⟩ := h1 (by omega)
  have e := p2 k h0 hk
  rw [← p3, ← hv] at e
  have q := p1 (k + 1) (by omega) (by omega)
  exact ⟨by rw [e]; exact ⟨q.1, q.2.1⟩, fun S2 t1 t2 => ⟨by omega, fun _ => ⟨by omega, p, p1, fun j j1 j2 => by rw [t1]; exact p2 j j1 j2, by rw [t2, e]⟩⟩⟩
def P_work : List av_X → fw_S → Prop := fun xs S => nv xs 2 < (S.1 572 0).toInt ∧ yF S (S.1 (574 + (nv xs 2).toNat) 0).toInt = 0
/- UtilityWorks$Crews skillFor -/
def kh_960 : ct_T := (127, [(2, 572, 572, 1), (2, 579, 579, 1)], [], [], [(1, (0, 0, 4, 1), [(2, 572, 572, 1), (2, 579, 579, 1)], [], ([], []))], [], 0, 0, 0)
theorem kh_960_ok : ct_ok wd_fl2 kh_960 := ct_of (ff := wd_ff2) (y := (⟨"UtilityWorks$Crews", "skillFor", "([I)I"⟩, prog_3_method_9_code, 2, some .int, 1, 1, 1, 26119, 26118, 2002, 21011)) (Cs := []) (an := [(13, 0, ([((2, 572, 572, 1), none), ((2, 579, 579, 1), none)], [(0, 0), (1, 1)], [], [], [], [], [((579, 579), (0, 0, 0), (0, 0, 1, 1))], [], none), [(0, 0, 99987)])]) (ss := []) (K := 1) (fuel := 4000) wd_fl2_ok rfl (List.forall_mem_nil _) (by decide +kernel)
/- UtilityWorks$Crews skillFor -/
def kh_961 : ct_T := (127, [(2, 572, 572, 1), (2, 579, 580, 1)], [], [], [(1, (0, 0, 4, 1), [(2, 572, 572, 1), (2, 579, 580, 1)], [], ([], []))], [], 0, 0, 0)
theorem kh_961_ok : ct_ok wd_fl2 kh_961 := ct_of (ff := wd_ff2) (y := (⟨"UtilityWorks$Crews", "skillFor", "([I)I"⟩, prog_3_method_9_code, 2, some .int, 1, 1, 1, 26119, 26118, 2002, 21011)) (Cs := []) (an := [(13, 0, ([((2, 572, 572, 1), none), ((2, 579, 580, 1), none)], [(0, 0), (1, 1)], [], [], [], [], [], [], none), [(0, 0, 99987)])]) (ss := []) (K := 1) (fuel := 4000) wd_fl2_ok rfl (List.forall_mem_nil _) (by decide +kernel)
/- UtilityWorks$Crews skillFor -/
def kh_962 : ct_T := (127, [(2, 572, 572, 1), (2, 579, 581, 1)], [], [], [(1, (0, 0, 4, 1), [(2, 572, 572, 1), (2, 579, 581, 1)], [], ([], []))], [], 0, 0, 0)
theorem kh_962_ok : ct_ok wd_fl2 kh_962 := ct_of (ff := wd_ff2) (y := (⟨"UtilityWorks$Crews", "skillFor", "([I)I"⟩, prog_3_method_9_code, 2, some .int, 1, 1, 1, 26119, 26118, 2002, 21011)) (Cs := []) (an := [(13, 0, ([((2, 572, 572, 1), none), ((2, 579, 581, 1), none)], [(0, 0), (1, 1)], [], [], [], [], [], [], none), [(0, 0, 99987)])]) (ss := []) (K := 1) (fuel := 4000) wd_fl2_ok rfl (List.forall_mem_nil _) (by decide +kernel)
/- UtilityWorks$Crews skillFor -/
def kh_963 : ct_T := (127, [(2, 572, 572, 1), (2, 579, 582, 1)], [], [], [(1, (0, 0, 4, 1), [(2, 572, 572, 1), (2, 579, 582, 1)], [], ([], []))], [], 0, 0, 0)
theorem kh_963_ok : ct_ok wd_fl2 kh_963 := ct_of (ff := wd_ff2) (y := (⟨"UtilityWorks$Crews", "skillFor", "([I)I"⟩, prog_3_method_9_code, 2, some .int, 1, 1, 1, 26119, 26118, 2002, 21011)) (Cs := []) (an := [(13, 0, ([((2, 572, 572, 1), none), ((2, 579, 582, 1), none)], [(0, 0), (1, 1)], [], [], [], [], [], [], none), [(0, 0, 99987)])]) (ss := []) (K := 1) (fuel := 4000) wd_fl2_ok rfl (List.forall_mem_nil _) (by decide +kernel)
/- UtilityWorks$Crews skillFor -/
def kh_964 : ct_T := (127, [(2, 572, 572, 1), (2, 579, 583, 1)], [], [], [(1, (0, 0, 4, 1), [(2, 572, 572, 1), (2, 579, 583, 1)], [], ([], []))], [], 0, 0, 0)
theorem kh_964_ok : ct_ok wd_fl2 kh_964 := ct_of (ff := wd_ff2) (y := (⟨"UtilityWorks$Crews", "skillFor", "([I)I"⟩, prog_3_method_9_code, 2, some .int, 1, 1, 1, 26119, 26118, 2002, 21011)) (Cs := []) (an := [(13, 0, ([((2, 572, 572, 1), none), ((2, 579, 583, 1), none)], [(0, 0), (1, 1)], [], [], [], [], [], [], none), [(0, 0, 99987)])]) (ss := []) (K := 1) (fuel := 4000) wd_fl2_ok rfl (List.forall_mem_nil _) (by decide +kernel)
/- UtilityWorks$Crews skillFor -/
def kh_965 : ct_T := (127, [(2, 572, 572, 1), (2, 579, 584, 1)], [], [], [(1, (0, 0, 4, 1), [(2, 572, 572, 1), (2, 579, 584, 1)], [], ([], []))], [], 0, 0, 0)
theorem kh_965_ok : ct_ok wd_fl2 kh_965 := ct_of (ff := wd_ff2) (y := (⟨"UtilityWorks$Crews", "skillFor", "([I)I"⟩, prog_3_method_9_code, 2, some .int, 1, 1, 1, 26119, 26118, 2002, 21011)) (Cs := []) (an := [(13, 0, ([((2, 572, 572, 1), none), ((2, 579, 584, 1), none)], [(0, 0), (1, 1)], [], [], [], [], [], [], none), [(0, 0, 99987)])]) (ss := []) (K := 1) (fuel := 4000) wd_fl2_ok rfl (List.forall_mem_nil _) (by decide +kernel)
/- UtilityWorks$Crews skillFor -/
def kh_966 : ct_T := (127, [(2, 572, 572, 1), (2, 579, 585, 1)], [], [], [(1, (0, 0, 4, 1), [(2, 572, 572, 1), (2, 579, 585, 1)], [], ([], []))], [], 0, 0, 0)
theorem kh_966_ok : ct_ok wd_fl2 kh_966 := ct_of (ff := wd_ff2) (y := (⟨"UtilityWorks$Crews", "skillFor", "([I)I"⟩, prog_3_method_9_code, 2, some .int, 1, 1, 1, 26119, 26118, 2002, 21011)) (Cs := []) (an := [(13, 0, ([((2, 572, 572, 1), none), ((2, 579, 585, 1), none)], [(0, 0), (1, 1)], [], [], [], [], [], [], none), [(0, 0, 99987)])]) (ss := []) (K := 1) (fuel := 4000) wd_fl2_ok rfl (List.forall_mem_nil _) (by decide +kernel)
/- UtilityWorks$Crews skillFor -/
def kh_967 : ct_T := (127, [(2, 572, 572, 1), (2, 579, 586, 1)], [], [], [(1, (0, 0, 4, 1), [(2, 572, 572, 1), (2, 579, 586, 1)], [], ([], []))], [], 0, 0, 0)
theorem kh_967_ok : ct_ok wd_fl2 kh_967 := ct_of (ff := wd_ff2) (y := (⟨"UtilityWorks$Crews", "skillFor", "([I)I"⟩, prog_3_method_9_code, 2, some .int, 1, 1, 1, 26119, 26118, 2002, 21011)) (Cs := []) (an := [(13, 0, ([((2, 572, 572, 1), none), ((2, 579, 586, 1), none)], [(0, 0), (1, 1)], [], [], [], [], [], [], none), [(0, 0, 99987)])]) (ss := []) (K := 1) (fuel := 4000) wd_fl2_ok rfl (List.forall_mem_nil _) (by decide +kernel)
/- UtilityWorks$Crews skillFor -/
def kh_968 : ct_T := (127, [(2, 572, 572, 1), (2, 579, 587, 1)], [], [], [(1, (0, 0, 4, 1), [(2, 572, 572, 1), (2, 579, 587, 1)], [], ([], []))], [], 0, 0, 0)
theorem kh_968_ok : ct_ok wd_fl2 kh_968 := ct_of (ff := wd_ff2) (y := (⟨"UtilityWorks$Crews", "skillFor", "([I)I"⟩, prog_3_method_9_code, 2, some .int, 1, 1, 1, 26119, 26118, 2002, 21011)) (Cs := []) (an := [(13, 0, ([((2, 572, 572, 1), none), ((2, 579, 587, 1), none)], [(0, 0), (1, 1)], [], [], [], [], [], [], none), [(0, 0, 99987)])]) (ss := []) (K := 1) (fuel := 4000) wd_fl2_ok rfl (List.forall_mem_nil _) (by decide +kernel)
/- UtilityWorks$Crews skillFor -/
def kh_969 : ct_T := (127, [(2, 572, 572, 1), (2, 579, 588, 1)], [], [], [(1, (0, 0, 4, 1), [(2, 572, 572, 1), (2, 579, 588, 1)], [], ([], []))], [], 0, 0, 0)
theorem kh_969_ok : ct_ok wd_fl2 kh_969 := ct_of (ff := wd_ff2) (y := (⟨"UtilityWorks$Crews", "skillFor", "([I)I"⟩, prog_3_method_9_code, 2, some .int, 1, 1, 1, 26119, 26118, 2002, 21011)) (Cs := []) (an := [(13, 0, ([((2, 572, 572, 1), none), ((2, 579, 588, 1), none)], [(0, 0), (1, 1)], [], [], [], [], [], [], none), [(0, 0, 99987)])]) (ss := []) (K := 1) (fuel := 4000) wd_fl2_ok rfl (List.forall_mem_nil _) (by decide +kernel)
/- UtilityWorks$Crews skillFor -/
def kh_970 : ct_T := (127, [(2, 572, 572, 1), (2, 579, 589, 1)], [], [], [(1, (0, 0, 4, 1), [(2, 572, 572, 1), (2, 579, 589, 1)], [], ([], []))], [], 0, 0, 0)
theorem kh_970_ok : ct_ok wd_fl2 kh_970 := ct_of (ff := wd_ff2) (y := (⟨"UtilityWorks$Crews", "skillFor", "([I)I"⟩, prog_3_method_9_code, 2, some .int, 1, 1, 1, 26119, 26118, 2002, 21011)) (Cs := []) (an := [(13, 0, ([((2, 572, 572, 1), none), ((2, 579, 589, 1), none)], [(0, 0), (1, 1)], [], [], [], [], [], [], none), [(0, 0, 99987)])]) (ss := []) (K := 1) (fuel := 4000) wd_fl2_ok rfl (List.forall_mem_nil _) (by decide +kernel)
/- UtilityWorks$Crews skillFor -/
def kh_971 : ct_T := (127, [(2, 572, 572, 1), (2, 579, 590, 1)], [], [], [(1, (0, 0, 4, 1), [(2, 572, 572, 1), (2, 579, 590, 1)], [], ([], []))], [], 0, 0, 0)
theorem kh_971_ok : ct_ok wd_fl2 kh_971 := ct_of (ff := wd_ff2) (y := (⟨"UtilityWorks$Crews", "skillFor", "([I)I"⟩, prog_3_method_9_code, 2, some .int, 1, 1, 1, 26119, 26118, 2002, 21011)) (Cs := []) (an := [(13, 0, ([((2, 572, 572, 1), none), ((2, 579, 590, 1), none)], [(0, 0), (1, 1)], [], [], [], [], [], [], none), [(0, 0, 99987)])]) (ss := []) (K := 1) (fuel := 4000) wd_fl2_ok rfl (List.forall_mem_nil _) (by decide +kernel)
/- UtilityWorks$Crews skillFor -/
def kh_972 : ct_T := (127, [(2, 572, 572, 1), (2, 579, 591, 1)], [], [], [(1, (0, 0, 4, 1), [(2, 572, 572, 1), (2, 579, 591, 1)], [], ([], []))], [], 0, 0, 0)
theorem kh_972_ok : ct_ok wd_fl2 kh_972 := ct_of (ff := wd_ff2) (y := (⟨"UtilityWorks$Crews", "skillFor", "([I)I"⟩, prog_3_method_9_code, 2, some .int, 1, 1, 1, 26119, 26118, 2002, 21011)) (Cs := []) (an := [(13, 0, ([((2, 572, 572, 1), none), ((2, 579, 591, 1), none)], [(0, 0), (1, 1)], [], [], [], [], [], [], none), [(0, 0, 99987)])]) (ss := []) (K := 1) (fuel := 4000) wd_fl2_ok rfl (List.forall_mem_nil _) (by decide +kernel)
/- UtilityWorks$Crews skillFor -/
def kh_973 : ct_T := (127, [(2, 572, 572, 1), (2, 579, 595, 1)], [], [], [(1, (0, 0, 4, 1), [(2, 572, 572, 1), (2, 579, 595, 1)], [], ([], []))], [], 0, 0, 0)
theorem kh_973_ok : ct_ok wd_fl2 kh_973 := ct_of (ff := wd_ff2) (y := (⟨"UtilityWorks$Crews", "skillFor", "([I)I"⟩, prog_3_method_9_code, 2, some .int, 1, 1, 1, 26119, 26118, 2002, 21011)) (Cs := []) (an := [(13, 0, ([((2, 572, 572, 1), none), ((2, 579, 595, 1), none)], [(0, 0), (1, 1)], [], [], [], [], [], [], none), [(0, 0, 99987)])]) (ss := []) (K := 1) (fuel := 4000) wd_fl2_ok rfl (List.forall_mem_nil _) (by decide +kernel)
/- UtilityWorks$Crews skillFor -/
def kh_974 : ct_T := (127, [(2, 572, 572, 1), (2, 579, 596, 1)], [], [], [(1, (0, 0, 4, 1), [(2, 572, 572, 1), (2, 579, 596, 1)], [], ([], []))], [], 0, 0, 0)
theorem kh_974_ok : ct_ok wd_fl2 kh_974 := ct_of (ff := wd_ff2) (y := (⟨"UtilityWorks$Crews", "skillFor", "([I)I"⟩, prog_3_method_9_code, 2, some .int, 1, 1, 1, 26119, 26118, 2002, 21011)) (Cs := []) (an := [(13, 0, ([((2, 572, 572, 1), none), ((2, 579, 596, 1), none)], [(0, 0), (1, 1)], [], [], [], [], [], [], none), [(0, 0, 99987)])]) (ss := []) (K := 1) (fuel := 4000) wd_fl2_ok rfl (List.forall_mem_nil _) (by decide +kernel)
/- UtilityWorks$Crews skillFor -/
def kh_975 : ct_T := (127, [(2, 572, 572, 1), (2, 579, 602, 1)], [], [], [(1, (0, 0, 4, 1), [(2, 572, 572, 1), (2, 579, 602, 1)], [], ([], []))], [], 0, 0, 0)
theorem kh_975_ok : ct_ok wd_fl2 kh_975 := ct_of (ff := wd_ff2) (y := (⟨"UtilityWorks$Crews", "skillFor", "([I)I"⟩, prog_3_method_9_code, 2, some .int, 1, 1, 1, 26119, 26118, 2002, 21011)) (Cs := []) (an := [(13, 0, ([((2, 572, 572, 1), none), ((2, 579, 602, 1), none)], [(0, 0), (1, 1)], [], [], [], [], [], [], none), [(0, 0, 99987)])]) (ss := []) (K := 1) (fuel := 4000) wd_fl2_ok rfl (List.forall_mem_nil _) (by decide +kernel)
/- UtilityWorks$Crews skillFor -/
def kh_976 : ct_T := (127, [(2, 572, 572, 1), (2, 579, 603, 1)], [], [], [(1, (0, 0, 4, 1), [(2, 572, 572, 1), (2, 579, 603, 1)], [], ([], []))], [], 0, 0, 0)
theorem kh_976_ok : ct_ok wd_fl2 kh_976 := ct_of (ff := wd_ff2) (y := (⟨"UtilityWorks$Crews", "skillFor", "([I)I"⟩, prog_3_method_9_code, 2, some .int, 1, 1, 1, 26119, 26118, 2002, 21011)) (Cs := []) (an := [(13, 0, ([((2, 572, 572, 1), none), ((2, 579, 603, 1), none)], [(0, 0), (1, 1)], [], [], [], [], [], [], none), [(0, 0, 99987)])]) (ss := []) (K := 1) (fuel := 4000) wd_fl2_ok rfl (List.forall_mem_nil _) (by decide +kernel)
/- UtilityWorks$Crews skillFor -/
def kh_977 : ct_T := (127, [(2, 572, 572, 1), (2, 579, 608, 1)], [], [], [(1, (0, 0, 4, 1), [(2, 572, 572, 1), (2, 579, 608, 1)], [], ([], []))], [], 0, 0, 0)
theorem kh_977_ok : ct_ok wd_fl2 kh_977 := ct_of (ff := wd_ff2) (y := (⟨"UtilityWorks$Crews", "skillFor", "([I)I"⟩, prog_3_method_9_code, 2, some .int, 1, 1, 1, 26119, 26118, 2002, 21011)) (Cs := []) (an := [(13, 0, ([((2, 572, 572, 1), none), ((2, 579, 608, 1), none)], [(0, 0), (1, 1)], [], [], [], [], [], [], none), [(0, 0, 99987)])]) (ss := []) (K := 1) (fuel := 4000) wd_fl2_ok rfl (List.forall_mem_nil _) (by decide +kernel)
/- UtilityWorks$Crews skillFor -/
def kh_978 : ct_T := (127, [(2, 572, 572, 1), (2, 579, 609, 1)], [], [], [(1, (0, 0, 4, 1), [(2, 572, 572, 1), (2, 579, 609, 1)], [], ([], []))], [], 0, 0, 0)
theorem kh_978_ok : ct_ok wd_fl2 kh_978 := ct_of (ff := wd_ff2) (y := (⟨"UtilityWorks$Crews", "skillFor", "([I)I"⟩, prog_3_method_9_code, 2, some .int, 1, 1, 1, 26119, 26118, 2002, 21011)) (Cs := []) (an := [(13, 0, ([((2, 572, 572, 1), none), ((2, 579, 609, 1), none)], [(0, 0), (1, 1)], [], [], [], [], [], [], none), [(0, 0, 99987)])]) (ss := []) (K := 1) (fuel := 4000) wd_fl2_ok rfl (List.forall_mem_nil _) (by decide +kernel)
/- UtilityWorks$Crews skillFor -/
def kh_979 : ct_T := (127, [(2, 572, 572, 1), (2, 579, 612, 1)], [], [], [(1, (0, 0, 4, 1), [(2, 572, 572, 1), (2, 579, 612, 1)], [], ([], []))], [], 0, 0, 0)
theorem kh_979_ok : ct_ok wd_fl2 kh_979 := ct_of (ff := wd_ff2) (y := (⟨"UtilityWorks$Crews", "skillFor", "([I)I"⟩, prog_3_method_9_code, 2, some .int, 1, 1, 1, 26119, 26118, 2002, 21011)) (Cs := []) (an := [(13, 0, ([((2, 572, 572, 1), none), ((2, 579, 612, 1), none)], [(0, 0), (1, 1)], [], [], [], [], [], [], none), [(0, 0, 99987)])]) (ss := []) (K := 1) (fuel := 4000) wd_fl2_ok rfl (List.forall_mem_nil _) (by decide +kernel)
/- UtilityWorks$Crews skillFor -/
def kh_980 : ct_T := (127, [(2, 572, 572, 1), (2, 579, 613, 1)], [], [], [(1, (0, 0, 4, 1), [(2, 572, 572, 1), (2, 579, 613, 1)], [], ([], []))], [], 0, 0, 0)
theorem kh_980_ok : ct_ok wd_fl2 kh_980 := ct_of (ff := wd_ff2) (y := (⟨"UtilityWorks$Crews", "skillFor", "([I)I"⟩, prog_3_method_9_code, 2, some .int, 1, 1, 1, 26119, 26118, 2002, 21011)) (Cs := []) (an := [(13, 0, ([((2, 572, 572, 1), none), ((2, 579, 613, 1), none)], [(0, 0), (1, 1)], [], [], [], [], [], [], none), [(0, 0, 99987)])]) (ss := []) (K := 1) (fuel := 4000) wd_fl2_ok rfl (List.forall_mem_nil _) (by decide +kernel)
/- UtilityWorks$Crews skillFor -/
def kh_981 : ct_T := (127, [(2, 572, 572, 1), (2, 579, 614, 1)], [], [], [(1, (0, 0, 4, 1), [(2, 572, 572, 1), (2, 579, 614, 1)], [], ([], []))], [], 0, 0, 0)
theorem kh_981_ok : ct_ok wd_fl2 kh_981 := ct_of (ff := wd_ff2) (y := (⟨"UtilityWorks$Crews", "skillFor", "([I)I"⟩, prog_3_method_9_code, 2, some .int, 1, 1, 1, 26119, 26118, 2002, 21011)) (Cs := []) (an := [(13, 0, ([((2, 572, 572, 1), none), ((2, 579, 614, 1), none)], [(0, 0), (1, 1)], [], [], [], [], [], [], none), [(0, 0, 99987)])]) (ss := []) (K := 1) (fuel := 4000) wd_fl2_ok rfl (List.forall_mem_nil _) (by decide +kernel)
/- UtilityWorks$Crews skillFor -/
def kh_982 : ct_T := (127, [(2, 572, 572, 1), (2, 579, 629, 1)], [], [], [(1, (0, 0, 4, 1), [(2, 572, 572, 1), (2, 579, 629, 1)], [], ([], []))], [], 0, 0, 0)
theorem kh_982_ok : ct_ok wd_fl2 kh_982 := ct_of (ff := wd_ff2) (y := (⟨"UtilityWorks$Crews", "skillFor", "([I)I"⟩, prog_3_method_9_code, 2, some .int, 1, 1, 1, 26119, 26118, 2002, 21011)) (Cs := []) (an := [(13, 0, ([((2, 572, 572, 1), none), ((2, 579, 629, 1), none)], [(0, 0), (1, 1)], [], [], [], [], [], [], none), [(0, 0, 99987)])]) (ss := []) (K := 1) (fuel := 4000) wd_fl2_ok rfl (List.forall_mem_nil _) (by decide +kernel)
/- UtilityWorks$Crews skillFor -/
def kh_983 : ct_T := (127, [(2, 572, 572, 1), (2, 579, 630, 1)], [], [], [(1, (0, 0, 4, 1), [(2, 572, 572, 1), (2, 579, 630, 1)], [], ([], []))], [], 0, 0, 0)
theorem kh_983_ok : ct_ok wd_fl2 kh_983 := ct_of (ff := wd_ff2) (y := (⟨"UtilityWorks$Crews", "skillFor", "([I)I"⟩, prog_3_method_9_code, 2, some .int, 1, 1, 1, 26119, 26118, 2002, 21011)) (Cs := []) (an := [(13, 0, ([((2, 572, 572, 1), none), ((2, 579, 630, 1), none)], [(0, 0), (1, 1)], [], [], [], [], [], [], none), [(0, 0, 99987)])]) (ss := []) (K := 1) (fuel := 4000) wd_fl2_ok rfl (List.forall_mem_nil _) (by decide +kernel)
/- UtilityWorks$Crews skillFor -/
def kh_984 : ct_T := (127, [(2, 572, 572, 1), (2, 579, 639, 1)], [], [], [(1, (0, 0, 4, 1), [(2, 572, 572, 1), (2, 579, 639, 1)], [], ([], []))], [], 0, 0, 0)
theorem kh_984_ok : ct_ok wd_fl2 kh_984 := ct_of (ff := wd_ff2) (y := (⟨"UtilityWorks$Crews", "skillFor", "([I)I"⟩, prog_3_method_9_code, 2, some .int, 1, 1, 1, 26119, 26118, 2002, 21011)) (Cs := []) (an := [(13, 0, ([((2, 572, 572, 1), none), ((2, 579, 639, 1), none)], [(0, 0), (1, 1)], [], [], [], [], [], [], none), [(0, 0, 99987)])]) (ss := []) (K := 1) (fuel := 4000) wd_fl2_ok rfl (List.forall_mem_nil _) (by decide +kernel)
/- UtilityWorks$Crews skillFor -/
def kh_985 : ct_T := (127, [(2, 572, 572, 1), (2, 579, 662, 1)], [], [], [(1, (0, 0, 4, 1), [(2, 572, 572, 1), (2, 579, 662, 1)], [], ([], []))], [], 0, 0, 0)
theorem kh_985_ok : ct_ok wd_fl2 kh_985 := ct_of (ff := wd_ff2) (y := (⟨"UtilityWorks$Crews", "skillFor", "([I)I"⟩, prog_3_method_9_code, 2, some .int, 1, 1, 1, 26119, 26118, 2002, 21011)) (Cs := []) (an := [(13, 0, ([((2, 572, 572, 1), none), ((2, 579, 662, 1), none)], [(0, 0), (1, 1)], [], [], [], [], [], [], none), [(0, 0, 99987)])]) (ss := []) (K := 1) (fuel := 4000) wd_fl2_ok rfl (List.forall_mem_nil _) (by decide +kernel)
/- UtilityWorks$Crews skillFor -/
def kh_986 : ct_T := (127, [(2, 572, 572, 1), (2, 579, 678, 1)], [], [], [(1, (0, 0, 4, 1), [(2, 572, 572, 1), (2, 579, 678, 1)], [], ([], []))], [], 0, 0, 0)
theorem kh_986_ok : ct_ok wd_fl2 kh_986 := ct_of (ff := wd_ff2) (y := (⟨"UtilityWorks$Crews", "skillFor", "([I)I"⟩, prog_3_method_9_code, 2, some .int, 1, 1, 1, 26119, 26118, 2002, 21011)) (Cs := []) (an := [(13, 0, ([((2, 572, 572, 1), none), ((2, 579, 678, 1), none)], [(0, 0), (1, 1)], [], [], [], [], [], [], none), [(0, 0, 99987)])]) (ss := []) (K := 1) (fuel := 4000) wd_fl2_ok rfl (List.forall_mem_nil _) (by decide +kernel)
/- UtilityWorks$Crews skillFor -/
def kh_987 : ct_T := (127, [(2, 572, 572, 1), (2, 579, 679, 1)], [], [], [(1, (0, 0, 4, 1), [(2, 572, 572, 1), (2, 579, 679, 1)], [], ([], []))], [], 0, 0, 0)
theorem kh_987_ok : ct_ok wd_fl2 kh_987 := ct_of (ff := wd_ff2) (y := (⟨"UtilityWorks$Crews", "skillFor", "([I)I"⟩, prog_3_method_9_code, 2, some .int, 1, 1, 1, 26119, 26118, 2002, 21011)) (Cs := []) (an := [(13, 0, ([((2, 572, 572, 1), none), ((2, 579, 679, 1), none)], [(0, 0), (1, 1)], [], [], [], [], [], [], none), [(0, 0, 99987)])]) (ss := []) (K := 1) (fuel := 4000) wd_fl2_ok rfl (List.forall_mem_nil _) (by decide +kernel)
/- UtilityWorks$Crews skillFor -/
def kh_988 : ct_T := (127, [(2, 572, 572, 1), (2, 579, 777, 1)], [], [], [(1, (0, 0, 4, 1), [(2, 572, 572, 1), (2, 579, 777, 1)], [], ([], []))], [], 0, 0, 0)
theorem kh_988_ok : ct_ok wd_fl2 kh_988 := ct_of (ff := wd_ff2) (y := (⟨"UtilityWorks$Crews", "skillFor", "([I)I"⟩, prog_3_method_9_code, 2, some .int, 1, 1, 1, 26119, 26118, 2002, 21011)) (Cs := []) (an := [(13, 0, ([((2, 572, 572, 1), none), ((2, 579, 777, 1), none)], [(0, 0), (1, 1)], [], [], [], [], [], [], none), [(0, 0, 99987)])]) (ss := []) (K := 1) (fuel := 4000) wd_fl2_ok rfl (List.forall_mem_nil _) (by decide +kernel)
/- UtilityWorks$Crews skillFor -/
def kh_989 : ct_T := (127, [(2, 572, 572, 1), (2, 579, 778, 1)], [], [], [(1, (0, 0, 4, 1), [(2, 572, 572, 1), (2, 579, 778, 1)], [], ([], []))], [], 0, 0, 0)
theorem kh_989_ok : ct_ok wd_fl2 kh_989 := ct_of (ff := wd_ff2) (y := (⟨"UtilityWorks$Crews", "skillFor", "([I)I"⟩, prog_3_method_9_code, 2, some .int, 1, 1, 1, 26119, 26118, 2002, 21011)) (Cs := []) (an := [(13, 0, ([((2, 572, 572, 1), none), ((2, 579, 778, 1), none)], [(0, 0), (1, 1)], [], [], [], [], [], [], none), [(0, 0, 99987)])]) (ss := []) (K := 1) (fuel := 4000) wd_fl2_ok rfl (List.forall_mem_nil _) (by decide +kernel)
abbrev kh_bestJob_y : mt_T := (⟨"UtilityWorks$Crews", "bestJob", "(LUtilityWorks$Town;I)I"⟩, prog_3_method_11_code, 11, some .int, 1, 1, 2, 26110, 26108, 26109, 21011)
def kh_bestJob : ct_T := (125, [(2, 572, 572, 1), (2, 1, 1, 1), (0, 0, 3, 1)], [], [520], [(1, (0, (-1), 199, 1), [(2, 572, 572, 1), (2, 1, 1, 1), (0, 0, 3, 1)], [], ([], []))], [], 1, 22, 0)
def kh_bestJob_a8 : an_T := (8, 0, ([((2, 572, 572, 1), none), ((2, 1, 1, 1), none), ((0, 0, 3, 1), none), ((0, (-1), 199, 1), none), ((0, 0, 11, 1), none), ((0, 0, 200, 1), none)], [(0, 0), (1, 1), (2, 2), (3, 3), (4, 4), (5, 5)], [], [], [], [], [], [520], none), [])
def kh_bestJob_a43 : an_T := (43, 0, ([((2, 572, 572, 1), none), ((2, 1, 1, 1), none), ((0, 0, 3, 1), none), ((0, (-1), 199, 1), none), ((0, 0, 11, 1), none), ((0, 0, 199, 1), none), ((2, 579, 778, 1), none), ((0, (-1), 11, 1), none)], [(0, 0), (1, 1), (2, 2), (3, 3), (4, 4), (5, 5), (6, 6), (7, 7)], [], [], [], [], [], [520], none), [])
def kh_bestJob_a71 : an_T := (71, 0, ([((2, 572, 572, 1), none), ((2, 1, 1, 1), none), ((0, 0, 3, 1), none), ((0, (-1), 199, 1), none), ((0, 0, 11, 1), none), ((0, 0, 199, 1), none), ((2, 579, 778, 1), none), ((0, (-1), 11, 1), none), ((0, 0, 1, 1), none)], [(0, 0), (1, 1), (2, 2), (3, 3), (4, 4), (5, 5), (6, 6), (7, 7), (8, 8)], [], [], [], [], [], [520], none), [])
def kh_bestJob_a96 : an_T := (96, 0, ([((2, 572, 572, 1), none), ((2, 1, 1, 1), none), ((0, 0, 3, 1), none), ((0, (-1), 199, 1), none), ((0, 0, 11, 1), none), ((0, 0, 199, 1), none), ((2, 579, 778, 1), none), ((0, (-1), 11, 1), none), ((0, 0, 1, 1), none), ((0, 0, 1, 1), none)], [(0, 0), (1, 1), (2, 2), (3, 3), (4, 4), (5, 5), (6, 6), (7, 7), (8, 8), (9, 9)], [], [], [], [], [], [520], none), [])
def kh_bestJob_a167 : an_T := (167, 0, ([((2, 572, 572, 1), none), ((2, 1, 1, 1), none), ((0, 0, 3, 1), none), ((0, (-1), 199, 1), none), ((0, 0, 11, 1), none), ((0, 0, 199, 1), none), ((2, 579, 778, 1), none), ((0, (-1), 11, 1), none), ((0, 0, 1, 1), none), ((0, 0, 1, 1), none)], [(0, 0), (1, 1), (2, 2), (3, 3), (4, 4), (5, 5), (6, 6), (7, 7), (8, 8), (9, 9)], [], [], [], [], [], [520], none), [])
def kh_bestJob_b0_0 : sg_T := (8, 0, ([((2, 572, 572, 1), none), ((2, 1, 1, 1), none), ((0, 0, 3, 1), none), ((0, (-1), (-1), 0), none), ((0, 0, 0, 0), none), ((0, 0, 0, 0), none)], [(5, 5), (4, 4), (3, 3), (0, 0), (1, 1), (2, 2)], [], [], [], [], [], [520], some []))
def kh_bestJob_b8_0 : sg_T := (174, 0, ([((2, 572, 572, 1), none), ((2, 1, 1, 1), none), ((0, 0, 3, 1), none), ((0, (-1), 199, 1), none), ((0, 0, 11, 1), none), ((0, 0, 200, 1), none), ((0, 2, 2, 0), none), ((0, 0, 200, 1), none)], [(0, 0), (1, 1), (2, 2), (3, 3), (4, 4), (5, 5)], [3], [(0, 6, 7)], [], [(200000, 7, 5), (800007, 0, 6)], [], [520], some []))
def kh_bestJob_b8_1 : sg_T := (43, 0, ([((2, 572, 572, 1), none), ((2, 1, 1, 1), none), ((0, 0, 3, 1), none), ((0, (-1), 199, 1), none), ((0, 0, 11, 1), none), ((0, 0, 199, 1), none), ((0, 2, 2, 0), none), ((0, 1, 200, 1), none), ((2, 578, 578, 1), none), ((2, 579, 778, 1), none), ((2, 2, 2, 1), none), ((2, 4, 4, 1), none), ((0, 0, 11, 1), none), ((0, (-1), 11, 1), none)], [(7, 13), (6, 9), (0, 0), (1, 1), (2, 2), (3, 3), (4, 4), (5, 5)], [], [(11, 12, 13), (8, 5, 9), (0, 6, 7)], [], [(800013, 11, 12), (100000, 5, 7), (800007, 0, 6)], [], [520], some []))
def kh_bestJob_b43_0 : sg_T := (71, 0, ([((2, 572, 572, 1), none), ((2, 1, 1, 1), none), ((0, 0, 3, 1), none), ((0, (-1), 199, 1), none), ((0, 0, 11, 1), none), ((0, 0, 199, 1), none), ((2, 579, 778, 1), none), ((0, (-1), 11, 1), none), ((2, 573, 573, 1), none), ((2, 574, 577, 1), none), ((0, 1, 1, 0), none), ((0, 0, 31, 1), none), ((0, 0, 4, 1), none), ((0, (-2147483648), 2147483647, 1), none), ((0, 1, 1, 0), none), ((0, 0, 0, 1), none), ((0, 1, 1, 0), none), ((0, 0, 0, 0), none)], [(8, 17), (0, 0), (1, 1), (2, 2), (3, 3), (4, 4), (5, 5), (6, 6), (7, 7)], [], [(9, 10, 11), (8, 2, 9)], [(15, 1)], [(400000, 15, 16), (200000, 15, 14), (800011, 9, 10)], [], [520], some []))
def kh_bestJob_b43_1 : sg_T := (71, 0, ([((2, 572, 572, 1), none), ((2, 1, 1, 1), none), ((0, 0, 3, 1), none), ((0, (-1), 199, 1), none), ((0, 0, 11, 1), none), ((0, 0, 199, 1), none), ((2, 579, 778, 1), none), ((0, (-1), 11, 1), none), ((2, 573, 573, 1), none), ((2, 574, 577, 1), none), ((0, 1, 1, 0), none), ((0, 0, 31, 1), none), ((0, 0, 4, 1), none), ((0, (-2147483648), 2147483647, 1), none), ((0, 1, 1, 0), none), ((0, 1, 1, 1), none), ((0, 1, 1, 0), none), ((0, 1, 1, 0), none)], [(8, 17), (0, 0), (1, 1), (2, 2), (3, 3), (4, 4), (5, 5), (6, 6), (7, 7)], [], [(9, 10, 11), (8, 2, 9)], [], [(300000, 15, 16), (200000, 15, 14), (800011, 9, 10)], [], [520], some []))
def kh_bestJob_b71_0 : sg_T := (96, 0, ([((2, 572, 572, 1), none), ((2, 1, 1, 1), none), ((0, 0, 3, 1), none), ((0, (-1), 199, 1), none), ((0, 0, 11, 1), none), ((0, 0, 199, 1), none), ((2, 579, 778, 1), none), ((0, (-1), 11, 1), none), ((0, 0, 1, 1), none), ((0, 0, 0, 0), none), ((0, 2, 2, 1), none), ((0, 2, 2, 0), none), ((0, 1, 1, 0), none)], [(9, 12), (0, 0), (1, 1), (2, 2), (3, 3), (4, 4), (5, 5), (6, 6), (7, 7), (8, 8)], [], [(6, 9, 10)], [], [(300000, 10, 11), (800010, 6, 9)], [], [520], some []))
def kh_bestJob_b71_1 : sg_T := (96, 0, ([((2, 572, 572, 1), none), ((2, 1, 1, 1), none), ((0, 0, 3, 1), none), ((0, (-1), 199, 1), none), ((0, 0, 11, 1), none), ((0, 0, 199, 1), none), ((2, 579, 778, 1), none), ((0, (-1), 11, 1), none), ((0, 0, 1, 1), none), ((0, 0, 0, 0), none), ((0, 0, 6, 1), none), ((0, 2, 2, 0), none), ((2, 794, 794, 1), none), ((0, 5, 5, 0), none), ((0, 1, 1, 1), none), ((0, 0, 0, 0), none)], [(9, 15), (0, 0), (1, 1), (2, 2), (3, 3), (4, 4), (5, 5), (6, 6), (7, 7), (8, 8)], [], [(12, 13, 14), (6, 9, 10)], [(14, 0), (10, 2)], [(800014, 12, 13), (400000, 10, 11), (800010, 6, 9)], [], [520], some []))
def kh_bestJob_b71_2 : sg_T := (96, 0, ([((2, 572, 572, 1), none), ((2, 1, 1, 1), none), ((0, 0, 3, 1), none), ((0, (-1), 199, 1), none), ((0, 0, 11, 1), none), ((0, 0, 199, 1), none), ((2, 579, 778, 1), none), ((0, (-1), 11, 1), none), ((0, 0, 1, 1), none), ((0, 0, 0, 0), none), ((0, 0, 6, 1), none), ((0, 2, 2, 0), none), ((2, 794, 794, 1), none), ((0, 5, 5, 0), none), ((0, 0, 0, 1), none), ((0, 1, 1, 0), none)], [(9, 15), (0, 0), (1, 1), (2, 2), (3, 3), (4, 4), (5, 5), (6, 6), (7, 7), (8, 8)], [], [(12, 13, 14), (6, 9, 10)], [(10, 2)], [(800014, 12, 13), (400000, 10, 11), (800010, 6, 9)], [], [520], some []))
def kh_bestJob_b96_0 : sg_T := (167, 0, ([((2, 572, 572, 1), none), ((2, 1, 1, 1), none), ((0, 0, 3, 1), none), ((0, (-1), 199, 1), none), ((0, 0, 11, 1), none), ((0, 0, 199, 1), none), ((2, 579, 778, 1), none), ((0, (-1), 11, 1), none), ((0, 0, 1, 1), none), ((0, 0, 1, 1), none), ((0, 4, 4, 0), none), ((0, 1, 3, 1), none)], [(0, 0), (1, 1), (2, 2), (3, 3), (4, 4), (5, 5), (6, 6), (7, 7), (8, 8), (9, 9)], [], [(6, 10, 11)], [(11, 0)], [(800011, 6, 10)], [], [520], some []))
def kh_bestJob_b96_1 : sg_T := (167, 0, ([((2, 572, 572, 1), none), ((2, 1, 1, 1), none), ((0, 0, 3, 1), none), ((0, (-1), 199, 1), none), ((0, 0, 11, 1), none), ((0, 0, 199, 1), none), ((2, 579, 778, 1), none), ((0, (-1), 11, 1), none), ((0, 0, 0, 1), none), ((0, 0, 1, 1), none), ((0, 4, 4, 0), none), ((0, 0, 0, 1), none)], [(0, 0), (1, 1), (2, 2), (3, 3), (4, 4), (5, 5), (6, 6), (7, 7), (8, 8), (9, 9)], [], [(6, 10, 11)], [], [(800011, 6, 10)], [], [520], some []))
def kh_bestJob_b96_2 : sg_T := (167, 0, ([((2, 572, 572, 1), none), ((2, 1, 1, 1), none), ((0, 0, 3, 1), none), ((0, (-1), 199, 1), none), ((0, 0, 11, 1), none), ((0, 0, 199, 1), none), ((2, 579, 778, 1), none), ((0, (-1), 11, 1), none), ((0, 1, 1, 1), none), ((0, 0, 0, 1), none), ((0, 4, 4, 0), none), ((0, 0, 0, 1), none)], [(0, 0), (1, 1), (2, 2), (3, 3), (4, 4), (5, 5), (6, 6), (7, 7), (8, 8), (9, 9)], [], [(6, 10, 11)], [(8, 0)], [(800011, 6, 10)], [], [520], some []))
def kh_bestJob_b96_3 : sg_T := (167, 0, ([((2, 572, 572, 1), none), ((2, 1, 1, 1), none), ((0, 0, 3, 1), none), ((0, (-1), 199, 1), none), ((0, 0, 11, 1), none), ((0, 0, 199, 1), none), ((2, 579, 778, 1), none), ((0, (-1), (-1), 1), none), ((0, 1, 1, 1), none), ((0, 1, 1, 1), none), ((0, 4, 4, 0), none), ((0, 0, 0, 1), none), ((0, (-1), (-1), 0), none)], [(0, 0), (1, 1), (2, 2), (3, 3), (4, 4), (5, 5), (6, 6), (7, 7), (8, 8), (9, 9)], [], [(6, 10, 11)], [(9, 0), (8, 0)], [(300000, 7, 12), (800011, 6, 10)], [], [520], some []))
def kh_bestJob_b96_4 : sg_T := (167, 0, ([((2, 572, 572, 1), none), ((2, 1, 1, 1), none), ((0, 0, 3, 1), none), ((0, 0, 199, 1), none), ((0, 0, 11, 1), none), ((0, 0, 199, 1), none), ((2, 579, 778, 1), none), ((0, 0, 11, 1), none), ((0, 1, 1, 1), none), ((0, 1, 1, 1), none), ((0, 4, 4, 0), none), ((0, 0, 0, 1), none), ((0, (-1), (-1), 0), none), ((0, (-1), (-1), 0), none), ((0, 3, 3, 0), none), ((0, 0, 9, 1), none), ((2, 578, 578, 1), none), ((2, 579, 778, 1), none), ((0, 3, 3, 0), none), ((0, 0, 9, 1), none), ((0, 1, 9, 1), none)], [(4, 7), (3, 5), (10, 20), (0, 0), (1, 1), (2, 2), (5, 5), (6, 6), (7, 7), (8, 8), (9, 9)], [], [(17, 18, 19), (16, 3, 17), (6, 14, 15), (6, 10, 11)], [(3, (-1)), (7, (-1)), (9, 0), (8, 0)], [(600020, 15, 19), (800019, 17, 18), (800015, 6, 14), (400000, 3, 13), (400000, 7, 12), (800011, 6, 10)], [], [520], some []))
def kh_bestJob_b96_5 : sg_T := (167, 0, ([((2, 572, 572, 1), none), ((2, 1, 1, 1), none), ((0, 0, 3, 1), none), ((0, 0, 199, 1), none), ((0, 0, 11, 1), none), ((0, 0, 199, 1), none), ((2, 579, 778, 1), none), ((0, 0, 11, 1), none), ((0, 1, 1, 1), none), ((0, 1, 1, 1), none), ((0, 4, 4, 0), none), ((0, 0, 0, 1), none), ((0, (-1), (-1), 0), none), ((0, (-1), (-1), 0), none), ((0, 3, 3, 0), none), ((0, 0, 9, 1), none), ((2, 578, 578, 1), none), ((2, 579, 778, 1), none), ((0, 3, 3, 0), none), ((0, 0, 9, 1), none), ((0, (-9), (-1), 1), none)], [(10, 20), (0, 0), (1, 1), (2, 2), (3, 3), (4, 4), (5, 5), (6, 6), (7, 7), (8, 8), (9, 9)], [], [(17, 18, 19), (16, 3, 17), (6, 14, 15), (6, 10, 11)], [(20, 0), (3, (-1)), (7, (-1)), (9, 0), (8, 0)], [(600020, 15, 19), (800019, 17, 18), (800015, 6, 14), (400000, 3, 13), (400000, 7, 12), (800011, 6, 10)], [], [520], some []))
def kh_bestJob_b96_6 : sg_T := (167, 0, ([((2, 572, 572, 1), none), ((2, 1, 1, 1), none), ((0, 0, 3, 1), none), ((0, 0, 199, 1), none), ((0, 0, 11, 1), none), ((0, 0, 199, 1), none), ((2, 579, 778, 1), none), ((0, 0, 11, 1), none), ((0, 1, 1, 1), none), ((0, 1, 1, 1), none), ((0, 4, 4, 0), none), ((0, 0, 0, 1), none), ((0, (-1), (-1), 0), none), ((0, (-1), (-1), 0), none), ((0, 3, 3, 0), none), ((0, 0, 9, 1), none), ((2, 578, 578, 1), none), ((2, 579, 778, 1), none), ((0, 3, 3, 0), none), ((0, 0, 9, 1), none), ((0, 0, 0, 1), none)], [(10, 20), (0, 0), (1, 1), (2, 2), (3, 3), (4, 4), (5, 5), (6, 6), (7, 7), (8, 8), (9, 9)], [], [(17, 18, 19), (16, 3, 17), (6, 14, 15), (6, 10, 11)], [(3, (-1)), (7, (-1)), (9, 0), (8, 0)], [(200000, 4, 7), (600020, 15, 19), (800019, 17, 18), (800015, 6, 14), (400000, 3, 13), (400000, 7, 12), (800011, 6, 10)], [], [520], some []))
def kh_bestJob_b96_7 : sg_T := (167, 0, ([((2, 572, 572, 1), none), ((2, 1, 1, 1), none), ((0, 0, 3, 1), none), ((0, 0, 199, 1), none), ((0, 1, 11, 1), none), ((0, 0, 199, 1), none), ((2, 579, 778, 1), none), ((0, 0, 10, 1), none), ((0, 1, 1, 1), none), ((0, 1, 1, 1), none), ((0, 4, 4, 0), none), ((0, 0, 0, 1), none), ((0, (-1), (-1), 0), none), ((0, (-1), (-1), 0), none), ((0, 3, 3, 0), none), ((0, 0, 9, 1), none), ((2, 578, 578, 1), none), ((2, 579, 778, 1), none), ((0, 3, 3, 0), none), ((0, 0, 9, 1), none), ((0, 0, 0, 1), none)], [(4, 7), (3, 5), (10, 20), (0, 0), (1, 1), (2, 2), (5, 5), (6, 6), (7, 7), (8, 8), (9, 9)], [], [(17, 18, 19), (16, 3, 17), (6, 14, 15), (6, 10, 11)], [(3, (-1)), (7, (-1)), (9, 0), (8, 0)], [(100000, 7, 4), (600020, 15, 19), (800019, 17, 18), (800015, 6, 14), (400000, 3, 13), (400000, 7, 12), (800011, 6, 10)], [], [520], some []))
def kh_bestJob_b96_8 : sg_T := (167, 0, ([((2, 572, 572, 1), none), ((2, 1, 1, 1), none), ((0, 0, 3, 1), none), ((0, (-1), (-1), 1), none), ((0, 0, 11, 1), none), ((0, 0, 199, 1), none), ((2, 579, 778, 1), none), ((0, 0, 11, 1), none), ((0, 1, 1, 1), none), ((0, 1, 1, 1), none), ((0, 4, 4, 0), none), ((0, 0, 0, 1), none), ((0, (-1), (-1), 0), none), ((0, (-1), (-1), 0), none), ((0, 1, 1, 0), none)], [(4, 7), (3, 5), (10, 14), (0, 0), (1, 1), (2, 2), (5, 5), (6, 6), (7, 7), (8, 8), (9, 9)], [], [(6, 10, 11)], [(7, (-1)), (9, 0), (8, 0)], [(300000, 3, 13), (400000, 7, 12), (800011, 6, 10)], [], [520], some []))
def kh_bestJob_b167_0 : sg_T := (8, 0, ([((2, 572, 572, 1), none), ((2, 1, 1, 1), none), ((0, 0, 3, 1), none), ((0, (-1), 199, 1), none), ((0, 0, 11, 1), none), ((0, 0, 199, 1), none), ((2, 579, 778, 1), none), ((0, (-1), 11, 1), none), ((0, 0, 1, 1), none), ((0, 0, 1, 1), none), ((0, 1, 200, 1), some (5, 1))], [(5, 10), (0, 0), (1, 1), (2, 2), (3, 3), (4, 4), (6, 6), (7, 7), (8, 8), (9, 9)], [], [], [], [], [], [520], some []))
def kh_bestJob_I (l : Launch) (D : va_G) (tc : Nat → ClassId) (ad : Nat → Nat) (kd : Nat → Nat × Nat) (N : Nat) (sm : Nat → Nat) (xs : List av_X) (S : fw_S) (p : Program) (e : Env) (s : State) (m : MethodId) (args : Array Value) (below : List Frame) (meth : Method) (c : Code) (sz : Nat) (k : Nat) : Prop := (∀ (α : List av_X) (lv : List (Nat × Value)) (st : List Value) (S1 : fw_S), as_in ad sm wd_fl2 xs S kh_bestJob.2.2.2.2.2.1 α kh_bestJob_a8.2.2.1 lv st S1 → (okB S (nv α 3)) → (200 - nv α 5).toNat * 6 + 5 < k → hd_WR R_bestJob wd_fl2 kh_bestJob kh_bestJob_y l D tc ad kd N sm xs S p e s m args below meth c sz 8 lv st S1 0) ∧ (∀ (α : List av_X) (lv : List (Nat × Value)) (st : List Value) (S1 : fw_S), as_in ad sm wd_fl2 xs S kh_bestJob.2.2.2.2.2.1 α kh_bestJob_a43.2.2.1 lv st S1 → (okB S (nv α 3) ∧ nv α 5 < (S.1 572 2).toInt ∧ nv α 6 = 579 + nv α 5) → (200 - nv α 5).toNat * 6 + 4 < k → hd_WR R_bestJob wd_fl2 kh_bestJob kh_bestJob_y l D tc ad kd N sm xs S p e s m args below meth c sz 43 lv st S1 0) ∧ (∀ (α : List av_X) (lv : List (Nat × Value)) (st : List Value) (S1 : fw_S), as_in ad sm wd_fl2 xs S kh_bestJob.2.2.2.2.2.1 α kh_bestJob_a71.2.2.1 lv st S1 → (okB S (nv α 3) ∧ nv α 5 < (S.1 572 2).toInt ∧ nv α 6 = 579 + nv α 5) → (200 - nv α 5).toNat * 6 + 3 < k → hd_WR R_bestJob wd_fl2 kh_bestJob kh_bestJob_y l D tc ad kd N sm xs S p e s m args below meth c sz 71 lv st S1 0) ∧ (∀ (α : List av_X) (lv : List (Nat × Value)) (st : List Value) (S1 : fw_S), as_in ad sm wd_fl2 xs S kh_bestJob.2.2.2.2.2.1 α kh_bestJob_a96.2.2.1 lv st S1 → (okB S (nv α 3) ∧ nv α 5 < (S.1 572 2).toInt ∧ nv α 6 = 579 + nv α 5) → (200 - nv α 5).toNat * 6 + 2 < k → hd_WR R_bestJob wd_fl2 kh_bestJob kh_bestJob_y l D tc ad kd N sm xs S p e s m args below meth c sz 96 lv st S1 0) ∧ (∀ (α : List av_X) (lv : List (Nat × Value)) (st : List Value) (S1 : fw_S), as_in ad sm wd_fl2 xs S kh_bestJob.2.2.2.2.2.1 α kh_bestJob_a167.2.2.1 lv st S1 → (okB S (nv α 3)) → (200 - nv α 5).toNat * 6 + 1 < k → hd_WR R_bestJob wd_fl2 kh_bestJob kh_bestJob_y l D tc ad kd N sm xs S p e s m args below meth c sz 167 lv st S1 0) ∧ True
set_option maxHeartbeats 16000000 in
set_option maxRecDepth 8000 in
theorem kh_bestJob_h8 {l : Launch} {D : va_G} {tc : Nat → ClassId} {ad : Nat → Nat} {kd : Nat → Nat × Nat} {N : Nat} {sm : Nat → Nat} {xs : List av_X} {S : fw_S} {p : Program} {e : Env} {s : State} {m : MethodId} {args : Array Value} {below : List Frame} {meth : Method} {c : Code} {sz : Nat} {lvE : List (Nat × Value)} (G : hd_C wd_ff2 wd_fl2 kh_bestJob [kh_spotOf, kh_960, kh_961, kh_962, kh_963, kh_964, kh_965, kh_966, kh_967, kh_968, kh_969, kh_970, kh_971, kh_972, kh_973, kh_974, kh_975, kh_976, kh_977, kh_978, kh_979, kh_980, kh_981, kh_982, kh_983, kh_984, kh_985, kh_986, kh_987, kh_988, kh_989] kh_bestJob_y l D tc ad kd N sm xs p s m args meth c sz) (H0 : as_in ad sm wd_fl2 xs S kh_bestJob.2.2.2.2.2.1 xs (hd_0 kh_bestJob) lvE [] S) {k : Nat} (ih : kh_bestJob_I l D tc ad kd N sm xs S p e s m args below meth c sz k) : (∀ (α : List av_X) (lv : List (Nat × Value)) (st : List Value) (S1 : fw_S), as_in ad sm wd_fl2 xs S kh_bestJob.2.2.2.2.2.1 α kh_bestJob_a8.2.2.1 lv st S1 → (okB S (nv α 3)) → (200 - nv α 5).toNat * 6 + 5 < k + 1 → hd_WR R_bestJob wd_fl2 kh_bestJob kh_bestJob_y l D tc ad kd N sm xs S p e s m args below meth c sz 8 lv st S1 0) := by
  have hx : xs.length = 3 := by rw [H0.2.1.1]; rfl
  intro α lv st S1 H hp hk
  obtain ⟨α1, hle, Hr⟩ := as_recM (pl := []) [] (by decide +kernel) H
  have hf := H.2.2.2.2.2.2.2.2.2.2.1
  have hl1 : α1.length = 6 := by rw [Hr.2.1.1]; rfl
  have hl0 : α.length = 6 := by rw [H.2.1.1]; rfl
  have hxa : al_le xs α1 := H.1.trans hle
  obtain ⟨g1, -, g3, g4, -⟩ := as_fx Hr
  have g0 : (572 ≤ nv α1 0 ∧ nv α1 0 ≤ 572) ∧ (1 ≤ nv α1 1 ∧ nv α1 1 ≤ 1) ∧ (0 ≤ nv α1 2 ∧ nv α1 2 ≤ 3) ∧ ((-1) ≤ nv α1 3 ∧ nv α1 3 ≤ 199) ∧ (0 ≤ nv α1 4 ∧ nv α1 4 ≤ 11) ∧ (0 ≤ nv α1 5 ∧ nv α1 5 ≤ 200) ∧ True := by
    refine ⟨by have h := (en_nv (i := 0) Hr.2.1 rfl).2; exact h, by have h := (en_nv (i := 1) Hr.2.1 rfl).2; exact h, by have h := (en_nv (i := 2) Hr.2.1 rfl).2; exact h, by have h := (en_nv (i := 3) Hr.2.1 rfl).2; exact h, by have h := (en_nv (i := 4) Hr.2.1 rfl).2; exact h, by have h := (en_nv (i := 5) Hr.2.1 rfl).2; exact h, trivial⟩
  have r0 : nv α1 0 = nv α 0 := nv_le hle (by omega)
  have r1 : nv α1 1 = nv α 1 := nv_le hle (by omega)
  have r2 : nv α1 2 = nv α 2 := nv_le hle (by omega)
  have r3 : nv α1 3 = nv α 3 := nv_le hle (by omega)
  have r4 : nv α1 4 = nv α 4 := nv_le hle (by omega)
  have r5 : nv α1 5 = nv α 5 := nv_le hle (by omega)
  refine hd_segMR G (na := 6) (fuel := 600) (first := true) (Bs := [kh_bestJob_b8_0, kh_bestJob_b8_1]) (by decide +kernel) hl1 Hr ?_
  intro q hq β lv' st' S' H1
  simp only [List.mem_cons, List.not_mem_nil, or_false] at hq
  rcases hq with rfl | rfl
  · obtain ⟨f1, f2, f3, f4, f5⟩ := as_fx H1
    simp only [kh_bestJob_b8_0, Nat.reduceEqDiff, if_false, fx_env, fx_c, fx_ne, fx_hf, wl_S, Nat.zero_add, Nat.reduceAdd, Nat.reduceDiv, Nat.reduceMod, List.getElem?_cons_zero, List.getElem?_cons_succ, if_true, and_true, true_and] at f1 f2 f3 f4 f5
    have fe0 : nv β 0 = 572 := by omega
    have fe1 : nv β 1 = 1 := by omega
    have fe6 : nv β 6 = 2 := by omega
    try simp only [fe0, fe1, fe6, Int.reduceToNat] at f2 f3 f4 f5
    have s0 : nv β 0 = nv α1 0 := nv_le H1.1 (by omega)
    have s1 : nv β 1 = nv α1 1 := nv_le H1.1 (by omega)
    have s2 : nv β 2 = nv α1 2 := nv_le H1.1 (by omega)
    have s3 : nv β 3 = nv α1 3 := nv_le H1.1 (by omega)
    have s4 : nv β 4 = nv α1 4 := nv_le H1.1 (by omega)
    have s5 : nv β 5 = nv α1 5 := nv_le H1.1 (by omega)
    obtain ⟨c0, c1⟩ := f2
    rw [← r3, ← s3] at hp
    exact hd_retIR G (v := 3) (by decide +kernel) (as_backM H1 (by decide +kernel) hxa hf) _ List.mem_cons_self rfl (by decide +kernel) (by decide) (fun w hw => by cases hw) (fun x hx => ⟨x, rfl, by rw [hx]; exact hp⟩)
  · obtain ⟨f1, f2, f3, f4, f5⟩ := as_fx H1
    simp only [kh_bestJob_b8_1, Nat.reduceEqDiff, if_false, fx_env, fx_c, fx_ne, fx_hf, wl_S, Nat.zero_add, Nat.reduceAdd, Nat.reduceDiv, Nat.reduceMod, List.getElem?_cons_zero, List.getElem?_cons_succ, if_true, and_true, true_and] at f1 f2 f3 f4 f5
    have fe0 : nv β 0 = 572 := by omega
    have fe1 : nv β 1 = 1 := by omega
    have fe6 : nv β 6 = 2 := by omega
    have fe8 : nv β 8 = 578 := by omega
    have fe10 : nv β 10 = 2 := by omega
    have fe11 : nv β 11 = 4 := by omega
    try simp only [fe0, fe1, fe6, fe8, fe10, fe11, Int.reduceToNat] at f2 f3 f4 f5
    have s0 : nv β 0 = nv α1 0 := nv_le H1.1 (by omega)
    have s1 : nv β 1 = nv α1 1 := nv_le H1.1 (by omega)
    have s2 : nv β 2 = nv α1 2 := nv_le H1.1 (by omega)
    have s3 : nv β 3 = nv α1 3 := nv_le H1.1 (by omega)
    have s4 : nv β 4 = nv α1 4 := nv_le H1.1 (by omega)
    have s5 : nv β 5 = nv α1 5 := nv_le H1.1 (by omega)
    obtain ⟨c0, c1, c2⟩ := f2
    obtain ⟨α', Ha, hm⟩ := hd_gpM (q := kh_bestJob_a43) (n := 0) (by decide +kernel) hx H1 (by decide +kernel) hxa hf
    have hfr := H1.2.2.2.2.2.2.2.2.2.2.1
    have m0 : nv α' 0 = nv β 0 := hm 0 0 rfl
    have m1 : nv α' 1 = nv β 1 := hm 1 1 rfl
    have m2 : nv α' 2 = nv β 2 := hm 2 2 rfl
    have m3 : nv α' 3 = nv β 3 := hm 3 3 rfl
    have m4 : nv α' 4 = nv β 4 := hm 4 4 rfl
    have m5 : nv α' 5 = nv β 5 := hm 5 5 rfl
    have m6 : nv α' 6 = nv β 9 := hm 6 9 rfl
    have m7 : nv α' 7 = nv β 13 := hm 7 13 rfl
    subst S'
    have rt9 := hf_rt (c := 578) (lo := 0) (hi := 199) (base := 579) (rv := 8) (iv := 5) (n := 9) (by decide +kernel) (by decide +kernel) H1 (by decide +kernel) (by omega) (by omega) (by omega)
    have eS : S1 = S := fr_same (show fr_in [] S S1 from hf)
    have o0 := old_0 c0 rfl
    have o2 := old_i c2 (en_nv (i := 7) H1.2.1 rfl).1
    refine ih.2.1 _ _ _ _ Ha ?_ ?_
    · rw [m3, m5, m6, s3, r3]
      exact ⟨hp, by rw [← eS, o2]; omega, by omega⟩
    · omega
set_option maxHeartbeats 16000000 in
set_option maxRecDepth 8000 in
theorem kh_bestJob_h43 {l : Launch} {D : va_G} {tc : Nat → ClassId} {ad : Nat → Nat} {kd : Nat → Nat × Nat} {N : Nat} {sm : Nat → Nat} {xs : List av_X} {S : fw_S} {p : Program} {e : Env} {s : State} {m : MethodId} {args : Array Value} {below : List Frame} {meth : Method} {c : Code} {sz : Nat} {lvE : List (Nat × Value)} (G : hd_C wd_ff2 wd_fl2 kh_bestJob [kh_spotOf, kh_960, kh_961, kh_962, kh_963, kh_964, kh_965, kh_966, kh_967, kh_968, kh_969, kh_970, kh_971, kh_972, kh_973, kh_974, kh_975, kh_976, kh_977, kh_978, kh_979, kh_980, kh_981, kh_982, kh_983, kh_984, kh_985, kh_986, kh_987, kh_988, kh_989] kh_bestJob_y l D tc ad kd N sm xs p s m args meth c sz) (H0 : as_in ad sm wd_fl2 xs S kh_bestJob.2.2.2.2.2.1 xs (hd_0 kh_bestJob) lvE [] S) {k : Nat} (ih : kh_bestJob_I l D tc ad kd N sm xs S p e s m args below meth c sz k) : (∀ (α : List av_X) (lv : List (Nat × Value)) (st : List Value) (S1 : fw_S), as_in ad sm wd_fl2 xs S kh_bestJob.2.2.2.2.2.1 α kh_bestJob_a43.2.2.1 lv st S1 → (okB S (nv α 3) ∧ nv α 5 < (S.1 572 2).toInt ∧ nv α 6 = 579 + nv α 5) → (200 - nv α 5).toNat * 6 + 4 < k + 1 → hd_WR R_bestJob wd_fl2 kh_bestJob kh_bestJob_y l D tc ad kd N sm xs S p e s m args below meth c sz 43 lv st S1 0) := by
  have hx : xs.length = 3 := by rw [H0.2.1.1]; rfl
  intro α lv st S1 H hp hk
  obtain ⟨α1, hle, Hr⟩ := as_recM (pl := []) [] (by decide +kernel) H
  have hf := H.2.2.2.2.2.2.2.2.2.2.1
  have hl1 : α1.length = 8 := by rw [Hr.2.1.1]; rfl
  have hl0 : α.length = 8 := by rw [H.2.1.1]; rfl
  have hxa : al_le xs α1 := H.1.trans hle
  obtain ⟨g1, -, g3, g4, -⟩ := as_fx Hr
  have g0 : (572 ≤ nv α1 0 ∧ nv α1 0 ≤ 572) ∧ (1 ≤ nv α1 1 ∧ nv α1 1 ≤ 1) ∧ (0 ≤ nv α1 2 ∧ nv α1 2 ≤ 3) ∧ ((-1) ≤ nv α1 3 ∧ nv α1 3 ≤ 199) ∧ (0 ≤ nv α1 4 ∧ nv α1 4 ≤ 11) ∧ (0 ≤ nv α1 5 ∧ nv α1 5 ≤ 199) ∧ (579 ≤ nv α1 6 ∧ nv α1 6 ≤ 778) ∧ ((-1) ≤ nv α1 7 ∧ nv α1 7 ≤ 11) ∧ True := by
    refine ⟨by have h := (en_nv (i := 0) Hr.2.1 rfl).2; exact h, by have h := (en_nv (i := 1) Hr.2.1 rfl).2; exact h, by have h := (en_nv (i := 2) Hr.2.1 rfl).2; exact h, by have h := (en_nv (i := 3) Hr.2.1 rfl).2; exact h, by have h := (en_nv (i := 4) Hr.2.1 rfl).2; exact h, by have h := (en_nv (i := 5) Hr.2.1 rfl).2; exact h, by have h := (en_nv (i := 6) Hr.2.1 rfl).2; exact h, by have h := (en_nv (i := 7) Hr.2.1 rfl).2; exact h, trivial⟩
  have r0 : nv α1 0 = nv α 0 := nv_le hle (by omega)
  have r1 : nv α1 1 = nv α 1 := nv_le hle (by omega)
  have r2 : nv α1 2 = nv α 2 := nv_le hle (by omega)
  have r3 : nv α1 3 = nv α 3 := nv_le hle (by omega)
  have r4 : nv α1 4 = nv α 4 := nv_le hle (by omega)
  have r5 : nv α1 5 = nv α 5 := nv_le hle (by omega)
  have r6 : nv α1 6 = nv α 6 := nv_le hle (by omega)
  have r7 : nv α1 7 = nv α 7 := nv_le hle (by omega)
  refine hd_segMR G (na := 8) (fuel := 600) (first := true) (Bs := [kh_bestJob_b43_0, kh_bestJob_b43_1]) (by decide +kernel) hl1 Hr ?_
  intro q hq β lv' st' S' H1
  simp only [List.mem_cons, List.not_mem_nil, or_false] at hq
  rcases hq with rfl | rfl
  · obtain ⟨f1, f2, f3, f4, f5⟩ := as_fx H1
    simp only [kh_bestJob_b43_0, Nat.reduceEqDiff, if_false, fx_env, fx_c, fx_ne, fx_hf, wl_S, Nat.zero_add, Nat.reduceAdd, Nat.reduceDiv, Nat.reduceMod, List.getElem?_cons_zero, List.getElem?_cons_succ, if_true, and_true, true_and] at f1 f2 f3 f4 f5
    have fe0 : nv β 0 = 572 := by omega
    have fe1 : nv β 1 = 1 := by omega
    have fe8 : nv β 8 = 573 := by omega
    have fe10 : nv β 10 = 1 := by omega
    have fe14 : nv β 14 = 1 := by omega
    have fe15 : nv β 15 = 0 := by omega
    have fe16 : nv β 16 = 1 := by omega
    have fe17 : nv β 17 = 0 := by omega
    try simp only [fe0, fe1, fe8, fe10, fe14, fe15, fe16, fe17, Int.reduceToNat] at f2 f3 f4 f5
    have s0 : nv β 0 = nv α1 0 := nv_le H1.1 (by omega)
    have s1 : nv β 1 = nv α1 1 := nv_le H1.1 (by omega)
    have s2 : nv β 2 = nv α1 2 := nv_le H1.1 (by omega)
    have s3 : nv β 3 = nv α1 3 := nv_le H1.1 (by omega)
    have s4 : nv β 4 = nv α1 4 := nv_le H1.1 (by omega)
    have s5 : nv β 5 = nv α1 5 := nv_le H1.1 (by omega)
    have s6 : nv β 6 = nv α1 6 := nv_le H1.1 (by omega)
    have s7 : nv β 7 = nv α1 7 := nv_le H1.1 (by omega)
    obtain ⟨c0, c1, c2⟩ := f2
    obtain ⟨α', Ha, hm⟩ := hd_gpM (q := kh_bestJob_a71) (n := 0) (by decide +kernel) hx H1 (by decide +kernel) hxa hf
    have hfr := H1.2.2.2.2.2.2.2.2.2.2.1
    have m0 : nv α' 0 = nv β 0 := hm 0 0 rfl
    have m1 : nv α' 1 = nv β 1 := hm 1 1 rfl
    have m2 : nv α' 2 = nv β 2 := hm 2 2 rfl
    have m3 : nv α' 3 = nv β 3 := hm 3 3 rfl
    have m4 : nv α' 4 = nv β 4 := hm 4 4 rfl
    have m5 : nv α' 5 = nv β 5 := hm 5 5 rfl
    have m6 : nv α' 6 = nv β 6 := hm 6 6 rfl
    have m7 : nv α' 7 = nv β 7 := hm 7 7 rfl
    have m8 : nv α' 8 = nv β 17 := hm 8 17 rfl
    subst S'
    refine ih.2.2.1 _ _ _ _ Ha ?_ ?_
    · rw [m3, m5, m6, s3, r3, s5, r5, s6, r6]; exact hp
    · omega
  · obtain ⟨f1, f2, f3, f4, f5⟩ := as_fx H1
    simp only [kh_bestJob_b43_1, Nat.reduceEqDiff, if_false, fx_env, fx_c, fx_ne, fx_hf, wl_S, Nat.zero_add, Nat.reduceAdd, Nat.reduceDiv, Nat.reduceMod, List.getElem?_cons_zero, List.getElem?_cons_succ, if_true, and_true, true_and] at f1 f2 f3 f4 f5
    have fe0 : nv β 0 = 572 := by omega
    have fe1 : nv β 1 = 1 := by omega
    have fe8 : nv β 8 = 573 := by omega
    have fe10 : nv β 10 = 1 := by omega
    have fe14 : nv β 14 = 1 := by omega
    have fe15 : nv β 15 = 1 := by omega
    have fe16 : nv β 16 = 1 := by omega
    have fe17 : nv β 17 = 1 := by omega
    try simp only [fe0, fe1, fe8, fe10, fe14, fe15, fe16, fe17, Int.reduceToNat] at f2 f3 f4 f5
    have s0 : nv β 0 = nv α1 0 := nv_le H1.1 (by omega)
    have s1 : nv β 1 = nv α1 1 := nv_le H1.1 (by omega)
    have s2 : nv β 2 = nv α1 2 := nv_le H1.1 (by omega)
    have s3 : nv β 3 = nv α1 3 := nv_le H1.1 (by omega)
    have s4 : nv β 4 = nv α1 4 := nv_le H1.1 (by omega)
    have s5 : nv β 5 = nv α1 5 := nv_le H1.1 (by omega)
    have s6 : nv β 6 = nv α1 6 := nv_le H1.1 (by omega)
    have s7 : nv β 7 = nv α1 7 := nv_le H1.1 (by omega)
    obtain ⟨c0, c1, c2⟩ := f2
    obtain ⟨α', Ha, hm⟩ := hd_gpM (q := kh_bestJob_a71) (n := 0) (by decide +kernel) hx H1 (by decide +kernel) hxa hf
    have hfr := H1.2.2.2.2.2.2.2.2.2.2.1
    have m0 : nv α' 0 = nv β 0 := hm 0 0 rfl
    have m1 : nv α' 1 = nv β 1 := hm 1 1 rfl
    have m2 : nv α' 2 = nv β 2 := hm 2 2 rfl
    have m3 : nv α' 3 = nv β 3 := hm 3 3 rfl
    have m4 : nv α' 4 = nv β 4 := hm 4 4 rfl
    have m5 : nv α' 5 = nv β 5 := hm 5 5 rfl
    have m6 : nv α' 6 = nv β 6 := hm 6 6 rfl
    have m7 : nv α' 7 = nv β 7 := hm 7 7 rfl
    have m8 : nv α' 8 = nv β 17 := hm 8 17 rfl
    subst S'
    refine ih.2.2.1 _ _ _ _ Ha ?_ ?_
    · rw [m3, m5, m6, s3, r3, s5, r5, s6, r6]; exact hp
    · omega
set_option maxHeartbeats 16000000 in
set_option maxRecDepth 8000 in
theorem kh_bestJob_h71 {l : Launch} {D : va_G} {tc : Nat → ClassId} {ad : Nat → Nat} {kd : Nat → Nat × Nat} {N : Nat} {sm : Nat → Nat} {xs : List av_X} {S : fw_S} {p : Program} {e : Env} {s : State} {m : MethodId} {args : Array Value} {below : List Frame} {meth : Method} {c : Code} {sz : Nat} {lvE : List (Nat × Value)} (G : hd_C wd_ff2 wd_fl2 kh_bestJob [kh_spotOf, kh_960, kh_961, kh_962, kh_963, kh_964, kh_965, kh_966, kh_967, kh_968, kh_969, kh_970, kh_971, kh_972, kh_973, kh_974, kh_975, kh_976, kh_977, kh_978, kh_979, kh_980, kh_981, kh_982, kh_983, kh_984, kh_985, kh_986, kh_987, kh_988, kh_989] kh_bestJob_y l D tc ad kd N sm xs p s m args meth c sz) (H0 : as_in ad sm wd_fl2 xs S kh_bestJob.2.2.2.2.2.1 xs (hd_0 kh_bestJob) lvE [] S) {k : Nat} (ih : kh_bestJob_I l D tc ad kd N sm xs S p e s m args below meth c sz k) : (∀ (α : List av_X) (lv : List (Nat × Value)) (st : List Value) (S1 : fw_S), as_in ad sm wd_fl2 xs S kh_bestJob.2.2.2.2.2.1 α kh_bestJob_a71.2.2.1 lv st S1 → (okB S (nv α 3) ∧ nv α 5 < (S.1 572 2).toInt ∧ nv α 6 = 579 + nv α 5) → (200 - nv α 5).toNat * 6 + 3 < k + 1 → hd_WR R_bestJob wd_fl2 kh_bestJob kh_bestJob_y l D tc ad kd N sm xs S p e s m args below meth c sz 71 lv st S1 0) := by
  have hx : xs.length = 3 := by rw [H0.2.1.1]; rfl
  intro α lv st S1 H hp hk
  obtain ⟨α1, hle, Hr⟩ := as_recM (pl := []) [] (by decide +kernel) H
  have hf := H.2.2.2.2.2.2.2.2.2.2.1
  have hl1 : α1.length = 9 := by rw [Hr.2.1.1]; rfl
  have hl0 : α.length = 9 := by rw [H.2.1.1]; rfl
  have hxa : al_le xs α1 := H.1.trans hle
  obtain ⟨g1, -, g3, g4, -⟩ := as_fx Hr
  have g0 : (572 ≤ nv α1 0 ∧ nv α1 0 ≤ 572) ∧ (1 ≤ nv α1 1 ∧ nv α1 1 ≤ 1) ∧ (0 ≤ nv α1 2 ∧ nv α1 2 ≤ 3) ∧ ((-1) ≤ nv α1 3 ∧ nv α1 3 ≤ 199) ∧ (0 ≤ nv α1 4 ∧ nv α1 4 ≤ 11) ∧ (0 ≤ nv α1 5 ∧ nv α1 5 ≤ 199) ∧ (579 ≤ nv α1 6 ∧ nv α1 6 ≤ 778) ∧ ((-1) ≤ nv α1 7 ∧ nv α1 7 ≤ 11) ∧ (0 ≤ nv α1 8 ∧ nv α1 8 ≤ 1) ∧ True := by
    refine ⟨by have h := (en_nv (i := 0) Hr.2.1 rfl).2; exact h, by have h := (en_nv (i := 1) Hr.2.1 rfl).2; exact h, by have h := (en_nv (i := 2) Hr.2.1 rfl).2; exact h, by have h := (en_nv (i := 3) Hr.2.1 rfl).2; exact h, by have h := (en_nv (i := 4) Hr.2.1 rfl).2; exact h, by have h := (en_nv (i := 5) Hr.2.1 rfl).2; exact h, by have h := (en_nv (i := 6) Hr.2.1 rfl).2; exact h, by have h := (en_nv (i := 7) Hr.2.1 rfl).2; exact h, by have h := (en_nv (i := 8) Hr.2.1 rfl).2; exact h, trivial⟩
  have r0 : nv α1 0 = nv α 0 := nv_le hle (by omega)
  have r1 : nv α1 1 = nv α 1 := nv_le hle (by omega)
  have r2 : nv α1 2 = nv α 2 := nv_le hle (by omega)
  have r3 : nv α1 3 = nv α 3 := nv_le hle (by omega)
  have r4 : nv α1 4 = nv α 4 := nv_le hle (by omega)
  have r5 : nv α1 5 = nv α 5 := nv_le hle (by omega)
  have r6 : nv α1 6 = nv α 6 := nv_le hle (by omega)
  have r7 : nv α1 7 = nv α 7 := nv_le hle (by omega)
  have r8 : nv α1 8 = nv α 8 := nv_le hle (by omega)
  refine hd_segMR G (na := 9) (fuel := 600) (first := true) (Bs := [kh_bestJob_b71_0, kh_bestJob_b71_1, kh_bestJob_b71_2]) (by decide +kernel) hl1 Hr ?_
  intro q hq β lv' st' S' H1
  simp only [List.mem_cons, List.not_mem_nil, or_false] at hq
  rcases hq with rfl | rfl | rfl
  · obtain ⟨f1, f2, f3, f4, f5⟩ := as_fx H1
    simp only [kh_bestJob_b71_0, Nat.reduceEqDiff, if_false, fx_env, fx_c, fx_ne, fx_hf, wl_S, Nat.zero_add, Nat.reduceAdd, Nat.reduceDiv, Nat.reduceMod, List.getElem?_cons_zero, List.getElem?_cons_succ, if_true, and_true, true_and] at f1 f2 f3 f4 f5
    have fe0 : nv β 0 = 572 := by omega
    have fe1 : nv β 1 = 1 := by omega
    have fe9 : nv β 9 = 0 := by omega
    have fe10 : nv β 10 = 2 := by omega
    have fe11 : nv β 11 = 2 := by omega
    have fe12 : nv β 12 = 1 := by omega
    try simp only [fe0, fe1, fe9, fe10, fe11, fe12, Int.reduceToNat] at f2 f3 f4 f5
    have s0 : nv β 0 = nv α1 0 := nv_le H1.1 (by omega)
    have s1 : nv β 1 = nv α1 1 := nv_le H1.1 (by omega)
    have s2 : nv β 2 = nv α1 2 := nv_le H1.1 (by omega)
    have s3 : nv β 3 = nv α1 3 := nv_le H1.1 (by omega)
    have s4 : nv β 4 = nv α1 4 := nv_le H1.1 (by omega)
    have s5 : nv β 5 = nv α1 5 := nv_le H1.1 (by omega)
    have s6 : nv β 6 = nv α1 6 := nv_le H1.1 (by omega)
    have s7 : nv β 7 = nv α1 7 := nv_le H1.1 (by omega)
    have s8 : nv β 8 = nv α1 8 := nv_le H1.1 (by omega)
    obtain ⟨c0, c1⟩ := f2
    obtain ⟨α', Ha, hm⟩ := hd_gpM (q := kh_bestJob_a96) (n := 0) (by decide +kernel) hx H1 (by decide +kernel) hxa hf
    have hfr := H1.2.2.2.2.2.2.2.2.2.2.1
    have m0 : nv α' 0 = nv β 0 := hm 0 0 rfl
    have m1 : nv α' 1 = nv β 1 := hm 1 1 rfl
    have m2 : nv α' 2 = nv β 2 := hm 2 2 rfl
    have m3 : nv α' 3 = nv β 3 := hm 3 3 rfl
    have m4 : nv α' 4 = nv β 4 := hm 4 4 rfl
    have m5 : nv α' 5 = nv β 5 := hm 5 5 rfl
    have m6 : nv α' 6 = nv β 6 := hm 6 6 rfl
    have m7 : nv α' 7 = nv β 7 := hm 7 7 rfl
    have m8 : nv α' 8 = nv β 8 := hm 8 8 rfl
    have m9 : nv α' 9 = nv β 12 := hm 9 12 rfl
    subst S'
    refine ih.2.2.2.1 _ _ _ _ Ha ?_ ?_
    · rw [m3, m5, m6, s3, r3, s5, r5, s6, r6]; exact hp
    · omega
  · obtain ⟨f1, f2, f3, f4, f5⟩ := as_fx H1
    simp only [kh_bestJob_b71_1, Nat.reduceEqDiff, if_false, fx_env, fx_c, fx_ne, fx_hf, wl_S, Nat.zero_add, Nat.reduceAdd, Nat.reduceDiv, Nat.reduceMod, List.getElem?_cons_zero, List.getElem?_cons_succ, if_true, and_true, true_and] at f1 f2 f3 f4 f5
    have fe0 : nv β 0 = 572 := by omega
    have fe1 : nv β 1 = 1 := by omega
    have fe9 : nv β 9 = 0 := by omega
    have fe11 : nv β 11 = 2 := by omega
    have fe12 : nv β 12 = 794 := by omega
    have fe13 : nv β 13 = 5 := by omega
    have fe14 : nv β 14 = 1 := by omega
    have fe15 : nv β 15 = 0 := by omega
    try simp only [fe0, fe1, fe9, fe11, fe12, fe13, fe14, fe15, Int.reduceToNat] at f2 f3 f4 f5
    have s0 : nv β 0 = nv α1 0 := nv_le H1.1 (by omega)
    have s1 : nv β 1 = nv α1 1 := nv_le H1.1 (by omega)
    have s2 : nv β 2 = nv α1 2 := nv_le H1.1 (by omega)
    have s3 : nv β 3 = nv α1 3 := nv_le H1.1 (by omega)
    have s4 : nv β 4 = nv α1 4 := nv_le H1.1 (by omega)
    have s5 : nv β 5 = nv α1 5 := nv_le H1.1 (by omega)
    have s6 : nv β 6 = nv α1 6 := nv_le H1.1 (by omega)
    have s7 : nv β 7 = nv α1 7 := nv_le H1.1 (by omega)
    have s8 : nv β 8 = nv α1 8 := nv_le H1.1 (by omega)
    obtain ⟨c0, c1, c2⟩ := f2
    obtain ⟨α', Ha, hm⟩ := hd_gpM (q := kh_bestJob_a96) (n := 0) (by decide +kernel) hx H1 (by decide +kernel) hxa hf
    have hfr := H1.2.2.2.2.2.2.2.2.2.2.1
    have m0 : nv α' 0 = nv β 0 := hm 0 0 rfl
    have m1 : nv α' 1 = nv β 1 := hm 1 1 rfl
    have m2 : nv α' 2 = nv β 2 := hm 2 2 rfl
    have m3 : nv α' 3 = nv β 3 := hm 3 3 rfl
    have m4 : nv α' 4 = nv β 4 := hm 4 4 rfl
    have m5 : nv α' 5 = nv β 5 := hm 5 5 rfl
    have m6 : nv α' 6 = nv β 6 := hm 6 6 rfl
    have m7 : nv α' 7 = nv β 7 := hm 7 7 rfl
    have m8 : nv α' 8 = nv β 8 := hm 8 8 rfl
    have m9 : nv α' 9 = nv β 15 := hm 9 15 rfl
    subst S'
    refine ih.2.2.2.1 _ _ _ _ Ha ?_ ?_
    · rw [m3, m5, m6, s3, r3, s5, r5, s6, r6]; exact hp
    · omega
  · obtain ⟨f1, f2, f3, f4, f5⟩ := as_fx H1
    simp only [kh_bestJob_b71_2, Nat.reduceEqDiff, if_false, fx_env, fx_c, fx_ne, fx_hf, wl_S, Nat.zero_add, Nat.reduceAdd, Nat.reduceDiv, Nat.reduceMod, List.getElem?_cons_zero, List.getElem?_cons_succ, if_true, and_true, true_and] at f1 f2 f3 f4 f5
    have fe0 : nv β 0 = 572 := by omega
    have fe1 : nv β 1 = 1 := by omega
    have fe9 : nv β 9 = 0 := by omega
    have fe11 : nv β 11 = 2 := by omega
    have fe12 : nv β 12 = 794 := by omega
    have fe13 : nv β 13 = 5 := by omega
    have fe14 : nv β 14 = 0 := by omega
    have fe15 : nv β 15 = 1 := by omega
    try simp only [fe0, fe1, fe9, fe11, fe12, fe13, fe14, fe15, Int.reduceToNat] at f2 f3 f4 f5
    have s0 : nv β 0 = nv α1 0 := nv_le H1.1 (by omega)
    have s1 : nv β 1 = nv α1 1 := nv_le H1.1 (by omega)
    have s2 : nv β 2 = nv α1 2 := nv_le H1.1 (by omega)
    have s3 : nv β 3 = nv α1 3 := nv_le H1.1 (by omega)
    have s4 : nv β 4 = nv α1 4 := nv_le H1.1 (by omega)
    have s5 : nv β 5 = nv α1 5 := nv_le H1.1 (by omega)
    have s6 : nv β 6 = nv α1 6 := nv_le H1.1 (by omega)
    have s7 : nv β 7 = nv α1 7 := nv_le H1.1 (by omega)
    have s8 : nv β 8 = nv α1 8 := nv_le H1.1 (by omega)
    obtain ⟨c0, c1, c2⟩ := f2
    obtain ⟨α', Ha, hm⟩ := hd_gpM (q := kh_bestJob_a96) (n := 0) (by decide +kernel) hx H1 (by decide +kernel) hxa hf
    have hfr := H1.2.2.2.2.2.2.2.2.2.2.1
    have m0 : nv α' 0 = nv β 0 := hm 0 0 rfl
    have m1 : nv α' 1 = nv β 1 := hm 1 1 rfl
    have m2 : nv α' 2 = nv β 2 := hm 2 2 rfl
    have m3 : nv α' 3 = nv β 3 := hm 3 3 rfl
    have m4 : nv α' 4 = nv β 4 := hm 4 4 rfl
    have m5 : nv α' 5 = nv β 5 := hm 5 5 rfl
    have m6 : nv α' 6 = nv β 6 := hm 6 6 rfl
    have m7 : nv α' 7 = nv β 7 := hm 7 7 rfl
    have m8 : nv α' 8 = nv β 8 := hm 8 8 rfl
    have m9 : nv α' 9 = nv β 15 := hm 9 15 rfl
    subst S'
    refine ih.2.2.2.1 _ _ _ _ Ha ?_ ?_
    · rw [m3, m5, m6, s3, r3, s5, r5, s6, r6]; exact hp
    · omega
set_option maxHeartbeats 16000000 in
set_option maxRecDepth 8000 in
theorem kh_bestJob_h96 {l : Launch} {D : va_G} {tc : Nat → ClassId} {ad : Nat → Nat} {kd : Nat → Nat × Nat} {N : Nat} {sm : Nat → Nat} {xs : List av_X} {S : fw_S} {p : Program} {e : Env} {s : State} {m : MethodId} {args : Array Value} {below : List Frame} {meth : Method} {c : Code} {sz : Nat} {lvE : List (Nat × Value)} (G : hd_C wd_ff2 wd_fl2 kh_bestJob [kh_spotOf, kh_960, kh_961, kh_962, kh_963, kh_964, kh_965, kh_966, kh_967, kh_968, kh_969, kh_970, kh_971, kh_972, kh_973, kh_974, kh_975, kh_976, kh_977, kh_978, kh_979, kh_980, kh_981, kh_982, kh_983, kh_984, kh_985, kh_986, kh_987, kh_988, kh_989] kh_bestJob_y l D tc ad kd N sm xs p s m args meth c sz) (H0 : as_in ad sm wd_fl2 xs S kh_bestJob.2.2.2.2.2.1 xs (hd_0 kh_bestJob) lvE [] S) {k : Nat} (ih : kh_bestJob_I l D tc ad kd N sm xs S p e s m args below meth c sz k) : (∀ (α : List av_X) (lv : List (Nat × Value)) (st : List Value) (S1 : fw_S), as_in ad sm wd_fl2 xs S kh_bestJob.2.2.2.2.2.1 α kh_bestJob_a96.2.2.1 lv st S1 → (okB S (nv α 3) ∧ nv α 5 < (S.1 572 2).toInt ∧ nv α 6 = 579 + nv α 5) → (200 - nv α 5).toNat * 6 + 2 < k + 1 → hd_WR R_bestJob wd_fl2 kh_bestJob kh_bestJob_y l D tc ad kd N sm xs S p e s m args below meth c sz 96 lv st S1 0) := by
  have hx : xs.length = 3 := by rw [H0.2.1.1]; rfl
  intro α lv st S1 H hp hk
  obtain ⟨α1, hle, Hr⟩ := as_recM (pl := []) [] (by decide +kernel) H
  have hf := H.2.2.2.2.2.2.2.2.2.2.1
  have hl1 : α1.length = 10 := by rw [Hr.2.1.1]; rfl
  have hl0 : α.length = 10 := by rw [H.2.1.1]; rfl
  have hxa : al_le xs α1 := H.1.trans hle
  obtain ⟨g1, -, g3, g4, -⟩ := as_fx Hr
  have g0 : (572 ≤ nv α1 0 ∧ nv α1 0 ≤ 572) ∧ (1 ≤ nv α1 1 ∧ nv α1 1 ≤ 1) ∧ (0 ≤ nv α1 2 ∧ nv α1 2 ≤ 3) ∧ ((-1) ≤ nv α1 3 ∧ nv α1 3 ≤ 199) ∧ (0 ≤ nv α1 4 ∧ nv α1 4 ≤ 11) ∧ (0 ≤ nv α1 5 ∧ nv α1 5 ≤ 199) ∧ (579 ≤ nv α1 6 ∧ nv α1 6 ≤ 778) ∧ ((-1) ≤ nv α1 7 ∧ nv α1 7 ≤ 11) ∧ (0 ≤ nv α1 8 ∧ nv α1 8 ≤ 1) ∧ (0 ≤ nv α1 9 ∧ nv α1 9 ≤ 1) ∧ True := by
    refine ⟨by have h := (en_nv (i := 0) Hr.2.1 rfl).2; exact h, by have h := (en_nv (i := 1) Hr.2.1 rfl).2; exact h, by have h := (en_nv (i := 2) Hr.2.1 rfl).2; exact h, by have h := (en_nv (i := 3) Hr.2.1 rfl).2; exact h, by have h := (en_nv (i := 4) Hr.2.1 rfl).2; exact h, by have h := (en_nv (i := 5) Hr.2.1 rfl).2; exact h, by have h := (en_nv (i := 6) Hr.2.1 rfl).2; exact h, by have h := (en_nv (i := 7) Hr.2.1 rfl).2; exact h, by have h := (en_nv (i := 8) Hr.2.1 rfl).2; exact h, by have h := (en_nv (i := 9) Hr.2.1 rfl).2; exact h, trivial⟩
  have r0 : nv α1 0 = nv α 0 := nv_le hle (by omega)
  have r1 : nv α1 1 = nv α 1 := nv_le hle (by omega)
  have r2 : nv α1 2 = nv α 2 := nv_le hle (by omega)
  have r3 : nv α1 3 = nv α 3 := nv_le hle (by omega)
  have r4 : nv α1 4 = nv α 4 := nv_le hle (by omega)
  have r5 : nv α1 5 = nv α 5 := nv_le hle (by omega)
  have r6 : nv α1 6 = nv α 6 := nv_le hle (by omega)
  have r7 : nv α1 7 = nv α 7 := nv_le hle (by omega)
  have r8 : nv α1 8 = nv α 8 := nv_le hle (by omega)
  have r9 : nv α1 9 = nv α 9 := nv_le hle (by omega)
  refine hd_segMR G (na := 10) (fuel := 600) (first := true) (Bs := [kh_bestJob_b96_0, kh_bestJob_b96_1, kh_bestJob_b96_2, kh_bestJob_b96_3, kh_bestJob_b96_4, kh_bestJob_b96_5, kh_bestJob_b96_6, kh_bestJob_b96_7, kh_bestJob_b96_8]) (by decide +kernel) hl1 Hr ?_
  intro q hq β lv' st' S' H1
  simp only [List.mem_cons, List.not_mem_nil, or_false] at hq
  rcases hq with rfl | rfl | rfl | rfl | rfl | rfl | rfl | rfl | rfl
  · obtain ⟨f1, f2, f3, f4, f5⟩ := as_fx H1
    simp only [kh_bestJob_b96_0, Nat.reduceEqDiff, if_false, fx_env, fx_c, fx_ne, fx_hf, wl_S, Nat.zero_add, Nat.reduceAdd, Nat.reduceDiv, Nat.reduceMod, List.getElem?_cons_zero, List.getElem?_cons_succ, if_true, and_true, true_and] at f1 f2 f3 f4 f5
    have fe0 : nv β 0 = 572 := by omega
    have fe1 : nv β 1 = 1 := by omega
    have fe10 : nv β 10 = 4 := by omega
    try simp only [fe0, fe1, fe10, Int.reduceToNat] at f2 f3 f4 f5
    have s0 : nv β 0 = nv α1 0 := nv_le H1.1 (by omega)
    have s1 : nv β 1 = nv α1 1 := nv_le H1.1 (by omega)
    have s2 : nv β 2 = nv α1 2 := nv_le H1.1 (by omega)
    have s3 : nv β 3 = nv α1 3 := nv_le H1.1 (by omega)
    have s4 : nv β 4 = nv α1 4 := nv_le H1.1 (by omega)
    have s5 : nv β 5 = nv α1 5 := nv_le H1.1 (by omega)
    have s6 : nv β 6 = nv α1 6 := nv_le H1.1 (by omega)
    have s7 : nv β 7 = nv α1 7 := nv_le H1.1 (by omega)
    have s8 : nv β 8 = nv α1 8 := nv_le H1.1 (by omega)
    have s9 : nv β 9 = nv α1 9 := nv_le H1.1 (by omega)
    have c0 := f2
    obtain ⟨α', Ha, hm⟩ := hd_gpM (q := kh_bestJob_a167) (n := 0) (by decide +kernel) hx H1 (by decide +kernel) hxa hf
    have hfr := H1.2.2.2.2.2.2.2.2.2.2.1
    have m0 : nv α' 0 = nv β 0 := hm 0 0 rfl
    have m1 : nv α' 1 = nv β 1 := hm 1 1 rfl
    have m2 : nv α' 2 = nv β 2 := hm 2 2 rfl
    have m3 : nv α' 3 = nv β 3 := hm 3 3 rfl
    have m4 : nv α' 4 = nv β 4 := hm 4 4 rfl
    have m5 : nv α' 5 = nv β 5 := hm 5 5 rfl
    have m6 : nv α' 6 = nv β 6 := hm 6 6 rfl
    have m7 : nv α' 7 = nv β 7 := hm 7 7 rfl
    have m8 : nv α' 8 = nv β 8 := hm 8 8 rfl
    have m9 : nv α' 9 = nv β 9 := hm 9 9 rfl
    subst S'
    refine ih.2.2.2.2.1 _ _ _ _ Ha ?_ ?_
    · rw [m3, s3, r3]; exact hp.1
    · omega
  · obtain ⟨f1, f2, f3, f4, f5⟩ := as_fx H1
    simp only [kh_bestJob_b96_1, Nat.reduceEqDiff, if_false, fx_env, fx_c, fx_ne, fx_hf, wl_S, Nat.zero_add, Nat.reduceAdd, Nat.reduceDiv, Nat.reduceMod, List.getElem?_cons_zero, List.getElem?_cons_succ, if_true, and_true, true_and] at f1 f2 f3 f4 f5
    have fe0 : nv β 0 = 572 := by omega
    have fe1 : nv β 1 = 1 := by omega
    have fe8 : nv β 8 = 0 := by omega
    have fe10 : nv β 10 = 4 := by omega
    have fe11 : nv β 11 = 0 := by omega
    try simp only [fe0, fe1, fe8, fe10, fe11, Int.reduceToNat] at f2 f3 f4 f5
    have s0 : nv β 0 = nv α1 0 := nv_le H1.1 (by omega)
    have s1 : nv β 1 = nv α1 1 := nv_le H1.1 (by omega)
    have s2 : nv β 2 = nv α1 2 := nv_le H1.1 (by omega)
    have s3 : nv β 3 = nv α1 3 := nv_le H1.1 (by omega)
    have s4 : nv β 4 = nv α1 4 := nv_le H1.1 (by omega)
    have s5 : nv β 5 = nv α1 5 := nv_le H1.1 (by omega)
    have s6 : nv β 6 = nv α1 6 := nv_le H1.1 (by omega)
    have s7 : nv β 7 = nv α1 7 := nv_le H1.1 (by omega)
    have s8 : nv β 8 = nv α1 8 := nv_le H1.1 (by omega)
    have s9 : nv β 9 = nv α1 9 := nv_le H1.1 (by omega)
    have c0 := f2
    obtain ⟨α', Ha, hm⟩ := hd_gpM (q := kh_bestJob_a167) (n := 0) (by decide +kernel) hx H1 (by decide +kernel) hxa hf
    have hfr := H1.2.2.2.2.2.2.2.2.2.2.1
    have m0 : nv α' 0 = nv β 0 := hm 0 0 rfl
    have m1 : nv α' 1 = nv β 1 := hm 1 1 rfl
    have m2 : nv α' 2 = nv β 2 := hm 2 2 rfl
    have m3 : nv α' 3 = nv β 3 := hm 3 3 rfl
    have m4 : nv α' 4 = nv β 4 := hm 4 4 rfl
    have m5 : nv α' 5 = nv β 5 := hm 5 5 rfl
    have m6 : nv α' 6 = nv β 6 := hm 6 6 rfl
    have m7 : nv α' 7 = nv β 7 := hm 7 7 rfl
    have m8 : nv α' 8 = nv β 8 := hm 8 8 rfl
    have m9 : nv α' 9 = nv β 9 := hm 9 9 rfl
    subst S'
    refine ih.2.2.2.2.1 _ _ _ _ Ha ?_ ?_
    · rw [m3, s3, r3]; exact hp.1
    · omega
  · obtain ⟨f1, f2, f3, f4, f5⟩ := as_fx H1
    simp only [kh_bestJob_b96_2, Nat.reduceEqDiff, if_false, fx_env, fx_c, fx_ne, fx_hf, wl_S, Nat.zero_add, Nat.reduceAdd, Nat.reduceDiv, Nat.reduceMod, List.getElem?_cons_zero, List.getElem?_cons_succ, if_true, and_true, true_and] at f1 f2 f3 f4 f5
    have fe0 : nv β 0 = 572 := by omega
    have fe1 : nv β 1 = 1 := by omega
    have fe8 : nv β 8 = 1 := by omega
    have fe9 : nv β 9 = 0 := by omega
    have fe10 : nv β 10 = 4 := by omega
    have fe11 : nv β 11 = 0 := by omega
    try simp only [fe0, fe1, fe8, fe9, fe10, fe11, Int.reduceToNat] at f2 f3 f4 f5
    have s0 : nv β 0 = nv α1 0 := nv_le H1.1 (by omega)
    have s1 : nv β 1 = nv α1 1 := nv_le H1.1 (by omega)
    have s2 : nv β 2 = nv α1 2 := nv_le H1.1 (by omega)
    have s3 : nv β 3 = nv α1 3 := nv_le H1.1 (by omega)
    have s4 : nv β 4 = nv α1 4 := nv_le H1.1 (by omega)
    have s5 : nv β 5 = nv α1 5 := nv_le H1.1 (by omega)
    have s6 : nv β 6 = nv α1 6 := nv_le H1.1 (by omega)
    have s7 : nv β 7 = nv α1 7 := nv_le H1.1 (by omega)
    have s8 : nv β 8 = nv α1 8 := nv_le H1.1 (by omega)
    have s9 : nv β 9 = nv α1 9 := nv_le H1.1 (by omega)
    have c0 := f2
    obtain ⟨α', Ha, hm⟩ := hd_gpM (q := kh_bestJob_a167) (n := 0) (by decide +kernel) hx H1 (by decide +kernel) hxa hf
    have hfr := H1.2.2.2.2.2.2.2.2.2.2.1
    have m0 : nv α' 0 = nv β 0 := hm 0 0 rfl
    have m1 : nv α' 1 = nv β 1 := hm 1 1 rfl
    have m2 : nv α' 2 = nv β 2 := hm 2 2 rfl
    have m3 : nv α' 3 = nv β 3 := hm 3 3 rfl
    have m4 : nv α' 4 = nv β 4 := hm 4 4 rfl
    have m5 : nv α' 5 = nv β 5 := hm 5 5 rfl
    have m6 : nv α' 6 = nv β 6 := hm 6 6 rfl
    have m7 : nv α' 7 = nv β 7 := hm 7 7 rfl
    have m8 : nv α' 8 = nv β 8 := hm 8 8 rfl
    have m9 : nv α' 9 = nv β 9 := hm 9 9 rfl
    subst S'
    refine ih.2.2.2.2.1 _ _ _ _ Ha ?_ ?_
    · rw [m3, s3, r3]; exact hp.1
    · omega
  · obtain ⟨f1, f2, f3, f4, f5⟩ := as_fx H1
    simp only [kh_bestJob_b96_3, Nat.reduceEqDiff, if_false, fx_env, fx_c, fx_ne, fx_hf, wl_S, Nat.zero_add, Nat.reduceAdd, Nat.reduceDiv, Nat.reduceMod, List.getElem?_cons_zero, List.getElem?_cons_succ, if_true, and_true, true_and] at f1 f2 f3 f4 f5
    have fe0 : nv β 0 = 572 := by omega
    have fe1 : nv β 1 = 1 := by omega
    have fe7 : nv β 7 = (-1) := by omega
    have fe8 : nv β 8 = 1 := by omega
    have fe9 : nv β 9 = 1 := by omega
    have fe10 : nv β 10 = 4 := by omega
    have fe11 : nv β 11 = 0 := by omega
    have fe12 : nv β 12 = (-1) := by omega
    try simp only [fe0, fe1, fe7, fe8, fe9, fe10, fe11, fe12, Int.reduceToNat] at f2 f3 f4 f5
    have s0 : nv β 0 = nv α1 0 := nv_le H1.1 (by omega)
    have s1 : nv β 1 = nv α1 1 := nv_le H1.1 (by omega)
    have s2 : nv β 2 = nv α1 2 := nv_le H1.1 (by omega)
    have s3 : nv β 3 = nv α1 3 := nv_le H1.1 (by omega)
    have s4 : nv β 4 = nv α1 4 := nv_le H1.1 (by omega)
    have s5 : nv β 5 = nv α1 5 := nv_le H1.1 (by omega)
    have s6 : nv β 6 = nv α1 6 := nv_le H1.1 (by omega)
    have s7 : nv β 7 = nv α1 7 := nv_le H1.1 (by omega)
    have s8 : nv β 8 = nv α1 8 := nv_le H1.1 (by omega)
    have s9 : nv β 9 = nv α1 9 := nv_le H1.1 (by omega)
    obtain ⟨c0, c1⟩ := f2
    obtain ⟨α', Ha, hm⟩ := hd_gpM (q := kh_bestJob_a167) (n := 0) (by decide +kernel) hx H1 (by decide +kernel) hxa hf
    have hfr := H1.2.2.2.2.2.2.2.2.2.2.1
    have m0 : nv α' 0 = nv β 0 := hm 0 0 rfl
    have m1 : nv α' 1 = nv β 1 := hm 1 1 rfl
    have m2 : nv α' 2 = nv β 2 := hm 2 2 rfl
    have m3 : nv α' 3 = nv β 3 := hm 3 3 rfl
    have m4 : nv α' 4 = nv β 4 := hm 4 4 rfl
    have m5 : nv α' 5 = nv β 5 := hm 5 5 rfl
    have m6 : nv α' 6 = nv β 6 := hm 6 6 rfl
    have m7 : nv α' 7 = nv β 7 := hm 7 7 rfl
    have m8 : nv α' 8 = nv β 8 := hm 8 8 rfl
    have m9 : nv α' 9 = nv β 9 := hm 9 9 rfl
    subst S'
    refine ih.2.2.2.2.1 _ _ _ _ Ha ?_ ?_
    · rw [m3, s3, r3]; exact hp.1
    · omega
  · obtain ⟨f1, f2, f3, f4, f5⟩ := as_fx H1
    simp only [kh_bestJob_b96_4, Nat.reduceEqDiff, if_false, fx_env, fx_c, fx_ne, fx_hf, wl_S, Nat.zero_add, Nat.reduceAdd, Nat.reduceDiv, Nat.reduceMod, List.getElem?_cons_zero, List.getElem?_cons_succ, if_true, and_true, true_and] at f1 f2 f3 f4 f5
    have fe0 : nv β 0 = 572 := by omega
    have fe1 : nv β 1 = 1 := by omega
    have fe8 : nv β 8 = 1 := by omega
    have fe9 : nv β 9 = 1 := by omega
    have fe10 : nv β 10 = 4 := by omega
    have fe11 : nv β 11 = 0 := by omega
    have fe12 : nv β 12 = (-1) := by omega
    have fe13 : nv β 13 = (-1) := by omega
    have fe14 : nv β 14 = 3 := by omega
    have fe16 : nv β 16 = 578 := by omega
    have fe18 : nv β 18 = 3 := by omega
    try simp only [fe0, fe1, fe8, fe9, fe10, fe11, fe12, fe13, fe14, fe16, fe18, Int.reduceToNat] at f2 f3 f4 f5
    have s0 : nv β 0 = nv α1 0 := nv_le H1.1 (by omega)
    have s1 : nv β 1 = nv α1 1 := nv_le H1.1 (by omega)
    have s2 : nv β 2 = nv α1 2 := nv_le H1.1 (by omega)
    have s3 : nv β 3 = nv α1 3 := nv_le H1.1 (by omega)
    have s4 : nv β 4 = nv α1 4 := nv_le H1.1 (by omega)
    have s5 : nv β 5 = nv α1 5 := nv_le H1.1 (by omega)
    have s6 : nv β 6 = nv α1 6 := nv_le H1.1 (by omega)
    have s7 : nv β 7 = nv α1 7 := nv_le H1.1 (by omega)
    have s8 : nv β 8 = nv α1 8 := nv_le H1.1 (by omega)
    have s9 : nv β 9 = nv α1 9 := nv_le H1.1 (by omega)
    obtain ⟨c0, c1, c2, c3, c4, c5⟩ := f2
    obtain ⟨α', Ha, hm⟩ := hd_gpM (q := kh_bestJob_a167) (n := 0) (by decide +kernel) hx H1 (by decide +kernel) hxa hf
    have hfr := H1.2.2.2.2.2.2.2.2.2.2.1
    have m0 : nv α' 0 = nv β 0 := hm 0 0 rfl
    have m1 : nv α' 1 = nv β 1 := hm 1 1 rfl
    have m2 : nv α' 2 = nv β 2 := hm 2 2 rfl
    have m3 : nv α' 3 = nv β 5 := hm 3 5 rfl
    have m4 : nv α' 4 = nv β 7 := hm 4 7 rfl
    have m5 : nv α' 5 = nv β 5 := hm 5 5 rfl
    have m6 : nv α' 6 = nv β 6 := hm 6 6 rfl
    have m7 : nv α' 7 = nv β 7 := hm 7 7 rfl
    have m8 : nv α' 8 = nv β 8 := hm 8 8 rfl
    have m9 : nv α' 9 = nv β 9 := hm 9 9 rfl
    subst S'
    have eS : S1 = S := fr_same (show fr_in [] S S1 from hf)
    have o1 := old_i c1 (en_nv (i := 19) H1.2.1 rfl).1
    have o2 := old_i c2 (en_nv (i := 15) H1.2.1 rfl).1
    have o5 := old_i c5 (by have h := (en_nv (i := 11) H1.2.1 rfl).1; rw [fe11] at h; exact h)
    refine ih.2.2.2.2.1 _ _ _ _ Ha ?_ ?_
    · rw [m3]
      refine Or.inr ⟨by omega, by have := hp.2.1; omega, ?_⟩
      have h6 := hp.2.2
      rw [mjk_v (by omega) (by decide), show 579 + (nv β 5).toNat = (nv β 6).toNat by omega, ← eS, o5] <;> omega
    · omega
  · obtain ⟨f1, f2, f3, f4, f5⟩ := as_fx H1
    simp only [kh_bestJob_b96_5, Nat.reduceEqDiff, if_false, fx_env, fx_c, fx_ne, fx_hf, wl_S, Nat.zero_add, Nat.reduceAdd, Nat.reduceDiv, Nat.reduceMod, List.getElem?_cons_zero, List.getElem?_cons_succ, if_true, and_true, true_and] at f1 f2 f3 f4 f5
    have fe0 : nv β 0 = 572 := by omega
    have fe1 : nv β 1 = 1 := by omega
    have fe8 : nv β 8 = 1 := by omega
    have fe9 : nv β 9 = 1 := by omega
    have fe10 : nv β 10 = 4 := by omega
    have fe11 : nv β 11 = 0 := by omega
    have fe12 : nv β 12 = (-1) := by omega
    have fe13 : nv β 13 = (-1) := by omega
    have fe14 : nv β 14 = 3 := by omega
    have fe16 : nv β 16 = 578 := by omega
    have fe18 : nv β 18 = 3 := by omega
    try simp only [fe0, fe1, fe8, fe9, fe10, fe11, fe12, fe13, fe14, fe16, fe18, Int.reduceToNat] at f2 f3 f4 f5
    have s0 : nv β 0 = nv α1 0 := nv_le H1.1 (by omega)
    have s1 : nv β 1 = nv α1 1 := nv_le H1.1 (by omega)
    have s2 : nv β 2 = nv α1 2 := nv_le H1.1 (by omega)
    have s3 : nv β 3 = nv α1 3 := nv_le H1.1 (by omega)
    have s4 : nv β 4 = nv α1 4 := nv_le H1.1 (by omega)
    have s5 : nv β 5 = nv α1 5 := nv_le H1.1 (by omega)
    have s6 : nv β 6 = nv α1 6 := nv_le H1.1 (by omega)
    have s7 : nv β 7 = nv α1 7 := nv_le H1.1 (by omega)
    have s8 : nv β 8 = nv α1 8 := nv_le H1.1 (by omega)
    have s9 : nv β 9 = nv α1 9 := nv_le H1.1 (by omega)
    obtain ⟨c0, c1, c2, c3, c4, c5⟩ := f2
    obtain ⟨α', Ha, hm⟩ := hd_gpM (q := kh_bestJob_a167) (n := 0) (by decide +kernel) hx H1 (by decide +kernel) hxa hf
    have hfr := H1.2.2.2.2.2.2.2.2.2.2.1
    have m0 : nv α' 0 = nv β 0 := hm 0 0 rfl
    have m1 : nv α' 1 = nv β 1 := hm 1 1 rfl
    have m2 : nv α' 2 = nv β 2 := hm 2 2 rfl
    have m3 : nv α' 3 = nv β 3 := hm 3 3 rfl
    have m4 : nv α' 4 = nv β 4 := hm 4 4 rfl
    have m5 : nv α' 5 = nv β 5 := hm 5 5 rfl
    have m6 : nv α' 6 = nv β 6 := hm 6 6 rfl
    have m7 : nv α' 7 = nv β 7 := hm 7 7 rfl
    have m8 : nv α' 8 = nv β 8 := hm 8 8 rfl
    have m9 : nv α' 9 = nv β 9 := hm 9 9 rfl
    subst S'
    refine ih.2.2.2.2.1 _ _ _ _ Ha ?_ ?_
    · rw [m3, s3, r3]; exact hp.1
    · omega
  · obtain ⟨f1, f2, f3, f4, f5⟩ := as_fx H1
    simp only [kh_bestJob_b96_6, Nat.reduceEqDiff, if_false, fx_env, fx_c, fx_ne, fx_hf, wl_S, Nat.zero_add, Nat.reduceAdd, Nat.reduceDiv, Nat.reduceMod, List.getElem?_cons_zero, List.getElem?_cons_succ, if_true, and_true, true_and] at f1 f2 f3 f4 f5
    have fe0 : nv β 0 = 572 := by omega
    have fe1 : nv β 1 = 1 := by omega
    have fe8 : nv β 8 = 1 := by omega
    have fe9 : nv β 9 = 1 := by omega
    have fe10 : nv β 10 = 4 := by omega
    have fe11 : nv β 11 = 0 := by omega
    have fe12 : nv β 12 = (-1) := by omega
    have fe13 : nv β 13 = (-1) := by omega
    have fe14 : nv β 14 = 3 := by omega
    have fe16 : nv β 16 = 578 := by omega
    have fe18 : nv β 18 = 3 := by omega
    have fe20 : nv β 20 = 0 := by omega
    try simp only [fe0, fe1, fe8, fe9, fe10, fe11, fe12, fe13, fe14, fe16, fe18, fe20, Int.reduceToNat] at f2 f3 f4 f5
    have s0 : nv β 0 = nv α1 0 := nv_le H1.1 (by omega)
    have s1 : nv β 1 = nv α1 1 := nv_le H1.1 (by omega)
    have s2 : nv β 2 = nv α1 2 := nv_le H1.1 (by omega)
    have s3 : nv β 3 = nv α1 3 := nv_le H1.1 (by omega)
    have s4 : nv β 4 = nv α1 4 := nv_le H1.1 (by omega)
    have s5 : nv β 5 = nv α1 5 := nv_le H1.1 (by omega)
    have s6 : nv β 6 = nv α1 6 := nv_le H1.1 (by omega)
    have s7 : nv β 7 = nv α1 7 := nv_le H1.1 (by omega)
    have s8 : nv β 8 = nv α1 8 := nv_le H1.1 (by omega)
    have s9 : nv β 9 = nv α1 9 := nv_le H1.1 (by omega)
    obtain ⟨c0, c1, c2, c3, c4, c5, c6⟩ := f2
    obtain ⟨α', Ha, hm⟩ := hd_gpM (q := kh_bestJob_a167) (n := 0) (by decide +kernel) hx H1 (by decide +kernel) hxa hf
    have hfr := H1.2.2.2.2.2.2.2.2.2.2.1
    have m0 : nv α' 0 = nv β 0 := hm 0 0 rfl
    have m1 : nv α' 1 = nv β 1 := hm 1 1 rfl
    have m2 : nv α' 2 = nv β 2 := hm 2 2 rfl
    have m3 : nv α' 3 = nv β 3 := hm 3 3 rfl
    have m4 : nv α' 4 = nv β 4 := hm 4 4 rfl
    have m5 : nv α' 5 = nv β 5 := hm 5 5 rfl
    have m6 : nv α' 6 = nv β 6 := hm 6 6 rfl
    have m7 : nv α' 7 = nv β 7 := hm 7 7 rfl
    have m8 : nv α' 8 = nv β 8 := hm 8 8 rfl
    have m9 : nv α' 9 = nv β 9 := hm 9 9 rfl
    subst S'
    refine ih.2.2.2.2.1 _ _ _ _ Ha ?_ ?_
    · rw [m3, s3, r3]; exact hp.1
    · omega
  · obtain ⟨f1, f2, f3, f4, f5⟩ := as_fx H1
    simp only [kh_bestJob_b96_7, Nat.reduceEqDiff, if_false, fx_env, fx_c, fx_ne, fx_hf, wl_S, Nat.zero_add, Nat.reduceAdd, Nat.reduceDiv, Nat.reduceMod, List.getElem?_cons_zero, List.getElem?_cons_succ, if_true, and_true, true_and] at f1 f2 f3 f4 f5
    have fe0 : nv β 0 = 572 := by omega
    have fe1 : nv β 1 = 1 := by omega
    have fe8 : nv β 8 = 1 := by omega
    have fe9 : nv β 9 = 1 := by omega
    have fe10 : nv β 10 = 4 := by omega
    have fe11 : nv β 11 = 0 := by omega
    have fe12 : nv β 12 = (-1) := by omega
    have fe13 : nv β 13 = (-1) := by omega
    have fe14 : nv β 14 = 3 := by omega
    have fe16 : nv β 16 = 578 := by omega
    have fe18 : nv β 18 = 3 := by omega
    have fe20 : nv β 20 = 0 := by omega
    try simp only [fe0, fe1, fe8, fe9, fe10, fe11, fe12, fe13, fe14, fe16, fe18, fe20, Int.reduceToNat] at f2 f3 f4 f5
    have s0 : nv β 0 = nv α1 0 := nv_le H1.1 (by omega)
    have s1 : nv β 1 = nv α1 1 := nv_le H1.1 (by omega)
    have s2 : nv β 2 = nv α1 2 := nv_le H1.1 (by omega)
    have s3 : nv β 3 = nv α1 3 := nv_le H1.1 (by omega)
    have s4 : nv β 4 = nv α1 4 := nv_le H1.1 (by omega)
    have s5 : nv β 5 = nv α1 5 := nv_le H1.1 (by omega)
    have s6 : nv β 6 = nv α1 6 := nv_le H1.1 (by omega)
    have s7 : nv β 7 = nv α1 7 := nv_le H1.1 (by omega)
    have s8 : nv β 8 = nv α1 8 := nv_le H1.1 (by omega)
    have s9 : nv β 9 = nv α1 9 := nv_le H1.1 (by omega)
    obtain ⟨c0, c1, c2, c3, c4, c5, c6⟩ := f2
    obtain ⟨α', Ha, hm⟩ := hd_gpM (q := kh_bestJob_a167) (n := 0) (by decide +kernel) hx H1 (by decide +kernel) hxa hf
    have hfr := H1.2.2.2.2.2.2.2.2.2.2.1
    have m0 : nv α' 0 = nv β 0 := hm 0 0 rfl
    have m1 : nv α' 1 = nv β 1 := hm 1 1 rfl
    have m2 : nv α' 2 = nv β 2 := hm 2 2 rfl
    have m3 : nv α' 3 = nv β 5 := hm 3 5 rfl
    have m4 : nv α' 4 = nv β 7 := hm 4 7 rfl
    have m5 : nv α' 5 = nv β 5 := hm 5 5 rfl
    have m6 : nv α' 6 = nv β 6 := hm 6 6 rfl
    have m7 : nv α' 7 = nv β 7 := hm 7 7 rfl
    have m8 : nv α' 8 = nv β 8 := hm 8 8 rfl
    have m9 : nv α' 9 = nv β 9 := hm 9 9 rfl
    subst S'
    have eS : S1 = S := fr_same (show fr_in [] S S1 from hf)
    have o2 := old_i c2 (en_nv (i := 19) H1.2.1 rfl).1
    have o3 := old_i c3 (en_nv (i := 15) H1.2.1 rfl).1
    have o6 := old_i c6 (by have h := (en_nv (i := 11) H1.2.1 rfl).1; rw [fe11] at h; exact h)
    refine ih.2.2.2.2.1 _ _ _ _ Ha ?_ ?_
    · rw [m3]
      refine Or.inr ⟨by omega, by have := hp.2.1; omega, ?_⟩
      have h6 := hp.2.2
      rw [mjk_v (by omega) (by decide), show 579 + (nv β 5).toNat = (nv β 6).toNat by omega, ← eS, o6] <;> omega
    · omega
  · obtain ⟨f1, f2, f3, f4, f5⟩ := as_fx H1
    simp only [kh_bestJob_b96_8, Nat.reduceEqDiff, if_false, fx_env, fx_c, fx_ne, fx_hf, wl_S, Nat.zero_add, Nat.reduceAdd, Nat.reduceDiv, Nat.reduceMod, List.getElem?_cons_zero, List.getElem?_cons_succ, if_true, and_true, true_and] at f1 f2 f3 f4 f5
    have fe0 : nv β 0 = 572 := by omega
    have fe1 : nv β 1 = 1 := by omega
    have fe3 : nv β 3 = (-1) := by omega
    have fe8 : nv β 8 = 1 := by omega
    have fe9 : nv β 9 = 1 := by omega
    have fe10 : nv β 10 = 4 := by omega
    have fe11 : nv β 11 = 0 := by omega
    have fe12 : nv β 12 = (-1) := by omega
    have fe13 : nv β 13 = (-1) := by omega
    have fe14 : nv β 14 = 1 := by omega
    try simp only [fe0, fe1, fe3, fe8, fe9, fe10, fe11, fe12, fe13, fe14, Int.reduceToNat] at f2 f3 f4 f5
    have s0 : nv β 0 = nv α1 0 := nv_le H1.1 (by omega)
    have s1 : nv β 1 = nv α1 1 := nv_le H1.1 (by omega)
    have s2 : nv β 2 = nv α1 2 := nv_le H1.1 (by omega)
    have s3 : nv β 3 = nv α1 3 := nv_le H1.1 (by omega)
    have s4 : nv β 4 = nv α1 4 := nv_le H1.1 (by omega)
    have s5 : nv β 5 = nv α1 5 := nv_le H1.1 (by omega)
    have s6 : nv β 6 = nv α1 6 := nv_le H1.1 (by omega)
    have s7 : nv β 7 = nv α1 7 := nv_le H1.1 (by omega)
    have s8 : nv β 8 = nv α1 8 := nv_le H1.1 (by omega)
    have s9 : nv β 9 = nv α1 9 := nv_le H1.1 (by omega)
    obtain ⟨c0, c1, c2⟩ := f2
    obtain ⟨α', Ha, hm⟩ := hd_gpM (q := kh_bestJob_a167) (n := 0) (by decide +kernel) hx H1 (by decide +kernel) hxa hf
    have hfr := H1.2.2.2.2.2.2.2.2.2.2.1
    have m0 : nv α' 0 = nv β 0 := hm 0 0 rfl
    have m1 : nv α' 1 = nv β 1 := hm 1 1 rfl
    have m2 : nv α' 2 = nv β 2 := hm 2 2 rfl
    have m3 : nv α' 3 = nv β 5 := hm 3 5 rfl
    have m4 : nv α' 4 = nv β 7 := hm 4 7 rfl
    have m5 : nv α' 5 = nv β 5 := hm 5 5 rfl
    have m6 : nv α' 6 = nv β 6 := hm 6 6 rfl
    have m7 : nv α' 7 = nv β 7 := hm 7 7 rfl
    have m8 : nv α' 8 = nv β 8 := hm 8 8 rfl
    have m9 : nv α' 9 = nv β 9 := hm 9 9 rfl
    subst S'
    have eS : S1 = S := fr_same (show fr_in [] S S1 from hf)
    have o2 := old_i c2 (by have h := (en_nv (i := 11) H1.2.1 rfl).1; rw [fe11] at h; exact h)
    refine ih.2.2.2.2.1 _ _ _ _ Ha ?_ ?_
    · rw [m3]
      refine Or.inr ⟨by omega, by have := hp.2.1; omega, ?_⟩
      have h6 := hp.2.2
      rw [mjk_v (by omega) (by decide), show 579 + (nv β 5).toNat = (nv β 6).toNat by omega, ← eS, o2] <;> omega
    · omega
set_option maxHeartbeats 16000000 in
set_option maxRecDepth 8000 in
theorem kh_bestJob_h167 {l : Launch} {D : va_G} {tc : Nat → ClassId} {ad : Nat → Nat} {kd : Nat → Nat × Nat} {N : Nat} {sm : Nat → Nat} {xs : List av_X} {S : fw_S} {p : Program} {e : Env} {s : State} {m : MethodId} {args : Array Value} {below : List Frame} {meth : Method} {c : Code} {sz : Nat} {lvE : List (Nat × Value)} (G : hd_C wd_ff2 wd_fl2 kh_bestJob [kh_spotOf, kh_960, kh_961, kh_962, kh_963, kh_964, kh_965, kh_966, kh_967, kh_968, kh_969, kh_970, kh_971, kh_972, kh_973, kh_974, kh_975, kh_976, kh_977, kh_978, kh_979, kh_980, kh_981, kh_982, kh_983, kh_984, kh_985, kh_986, kh_987, kh_988, kh_989] kh_bestJob_y l D tc ad kd N sm xs p s m args meth c sz) (H0 : as_in ad sm wd_fl2 xs S kh_bestJob.2.2.2.2.2.1 xs (hd_0 kh_bestJob) lvE [] S) {k : Nat} (ih : kh_bestJob_I l D tc ad kd N sm xs S p e s m args below meth c sz k) : (∀ (α : List av_X) (lv : List (Nat × Value)) (st : List Value) (S1 : fw_S), as_in ad sm wd_fl2 xs S kh_bestJob.2.2.2.2.2.1 α kh_bestJob_a167.2.2.1 lv st S1 → (okB S (nv α 3)) → (200 - nv α 5).toNat * 6 + 1 < k + 1 → hd_WR R_bestJob wd_fl2 kh_bestJob kh_bestJob_y l D tc ad kd N sm xs S p e s m args below meth c sz 167 lv st S1 0) := by
  have hx : xs.length = 3 := by rw [H0.2.1.1]; rfl
  intro α lv st S1 H hp hk
  obtain ⟨α1, hle, Hr⟩ := as_recM (pl := []) [] (by decide +kernel) H
  have hf := H.2.2.2.2.2.2.2.2.2.2.1
  have hl1 : α1.length = 10 := by rw [Hr.2.1.1]; rfl
  have hl0 : α.length = 10 := by rw [H.2.1.1]; rfl
  have hxa : al_le xs α1 := H.1.trans hle
  obtain ⟨g1, -, g3, g4, -⟩ := as_fx Hr
  have g0 : (572 ≤ nv α1 0 ∧ nv α1 0 ≤ 572) ∧ (1 ≤ nv α1 1 ∧ nv α1 1 ≤ 1) ∧ (0 ≤ nv α1 2 ∧ nv α1 2 ≤ 3) ∧ ((-1) ≤ nv α1 3 ∧ nv α1 3 ≤ 199) ∧ (0 ≤ nv α1 4 ∧ nv α1 4 ≤ 11) ∧ (0 ≤ nv α1 5 ∧ nv α1 5 ≤ 199) ∧ (579 ≤ nv α1 6 ∧ nv α1 6 ≤ 778) ∧ ((-1) ≤ nv α1 7 ∧ nv α1 7 ≤ 11) ∧ (0 ≤ nv α1 8 ∧ nv α1 8 ≤ 1) ∧ (0 ≤ nv α1 9 ∧ nv α1 9 ≤ 1) ∧ True := by
    refine ⟨by have h := (en_nv (i := 0) Hr.2.1 rfl).2; exact h, by have h := (en_nv (i := 1) Hr.2.1 rfl).2; exact h, by have h := (en_nv (i := 2) Hr.2.1 rfl).2; exact h, by have h := (en_nv (i := 3) Hr.2.1 rfl).2; exact h, by have h := (en_nv (i := 4) Hr.2.1 rfl).2; exact h, by have h := (en_nv (i := 5) Hr.2.1 rfl).2; exact h, by have h := (en_nv (i := 6) Hr.2.1 rfl).2; exact h, by have h := (en_nv (i := 7) Hr.2.1 rfl).2; exact h, by have h := (en_nv (i := 8) Hr.2.1 rfl).2; exact h, by have h := (en_nv (i := 9) Hr.2.1 rfl).2; exact h, trivial⟩
  have r0 : nv α1 0 = nv α 0 := nv_le hle (by omega)
  have r1 : nv α1 1 = nv α 1 := nv_le hle (by omega)
  have r2 : nv α1 2 = nv α 2 := nv_le hle (by omega)
  have r3 : nv α1 3 = nv α 3 := nv_le hle (by omega)
  have r4 : nv α1 4 = nv α 4 := nv_le hle (by omega)
  have r5 : nv α1 5 = nv α 5 := nv_le hle (by omega)
  have r6 : nv α1 6 = nv α 6 := nv_le hle (by omega)
  have r7 : nv α1 7 = nv α 7 := nv_le hle (by omega)
  have r8 : nv α1 8 = nv α 8 := nv_le hle (by omega)
  have r9 : nv α1 9 = nv α 9 := nv_le hle (by omega)
  refine hd_segMR G (na := 10) (fuel := 600) (first := true) (Bs := [kh_bestJob_b167_0]) (by decide +kernel) hl1 Hr ?_
  intro q hq β lv' st' S' H1
  simp only [List.mem_cons, List.not_mem_nil, or_false] at hq
  rcases hq with rfl
  · obtain ⟨f1, f2, f3, f4, f5⟩ := as_fx H1
    simp only [kh_bestJob_b167_0, Nat.reduceEqDiff, if_false, fx_env, fx_c, fx_ne, fx_hf, wl_S, Nat.zero_add, Nat.reduceAdd, Nat.reduceDiv, Nat.reduceMod, List.getElem?_cons_zero, List.getElem?_cons_succ, if_true, and_true, true_and] at f1 f2 f3 f4 f5
    have fe0 : nv β 0 = 572 := by omega
    have fe1 : nv β 1 = 1 := by omega
    try simp only [fe0, fe1, Int.reduceToNat] at f2 f3 f4 f5
    have s0 : nv β 0 = nv α1 0 := nv_le H1.1 (by omega)
    have s1 : nv β 1 = nv α1 1 := nv_le H1.1 (by omega)
    have s2 : nv β 2 = nv α1 2 := nv_le H1.1 (by omega)
    have s3 : nv β 3 = nv α1 3 := nv_le H1.1 (by omega)
    have s4 : nv β 4 = nv α1 4 := nv_le H1.1 (by omega)
    have s5 : nv β 5 = nv α1 5 := nv_le H1.1 (by omega)
    have s6 : nv β 6 = nv α1 6 := nv_le H1.1 (by omega)
    have s7 : nv β 7 = nv α1 7 := nv_le H1.1 (by omega)
    have s8 : nv β 8 = nv α1 8 := nv_le H1.1 (by omega)
    have s9 : nv β 9 = nv α1 9 := nv_le H1.1 (by omega)
    obtain ⟨α', Ha, hm⟩ := hd_gpM (q := kh_bestJob_a8) (n := 0) (by decide +kernel) hx H1 (by decide +kernel) hxa hf
    have hfr := H1.2.2.2.2.2.2.2.2.2.2.1
    have m0 : nv α' 0 = nv β 0 := hm 0 0 rfl
    have m1 : nv α' 1 = nv β 1 := hm 1 1 rfl
    have m2 : nv α' 2 = nv β 2 := hm 2 2 rfl
    have m3 : nv α' 3 = nv β 3 := hm 3 3 rfl
    have m4 : nv α' 4 = nv β 4 := hm 4 4 rfl
    have m5 : nv α' 5 = nv β 10 := hm 5 10 rfl
    subst S'
    refine ih.1 _ _ _ _ Ha ?_ ?_
    · rw [m3, s3, r3]; exact hp
    · omega
set_option maxHeartbeats 16000000 in
set_option maxRecDepth 8000 in
theorem kh_bestJob_okR : ct_okR wd_fl2 kh_bestJob R_bestJob := ct_handR (R := R_bestJob) (ff := wd_ff2) (y := kh_bestJob_y) (Cs := [kh_spotOf, kh_960, kh_961, kh_962, kh_963, kh_964, kh_965, kh_966, kh_967, kh_968, kh_969, kh_970, kh_971, kh_972, kh_973, kh_974, kh_975, kh_976, kh_977, kh_978, kh_979, kh_980, kh_981, kh_982, kh_983, kh_984, kh_985, kh_986, kh_987, kh_988, kh_989]) wd_fl2_ok rfl (List.forall_mem_cons.mpr ⟨kh_spotOf_ok, (List.forall_mem_cons.mpr ⟨kh_960_ok, (List.forall_mem_cons.mpr ⟨kh_961_ok, (List.forall_mem_cons.mpr ⟨kh_962_ok, (List.forall_mem_cons.mpr ⟨kh_963_ok, (List.forall_mem_cons.mpr ⟨kh_964_ok, (List.forall_mem_cons.mpr ⟨kh_965_ok, (List.forall_mem_cons.mpr ⟨kh_966_ok, (List.forall_mem_cons.mpr ⟨kh_967_ok, (List.forall_mem_cons.mpr ⟨kh_968_ok, (List.forall_mem_cons.mpr ⟨kh_969_ok, (List.forall_mem_cons.mpr ⟨kh_970_ok, (List.forall_mem_cons.mpr ⟨kh_971_ok, (List.forall_mem_cons.mpr ⟨kh_972_ok, (List.forall_mem_cons.mpr ⟨kh_973_ok, (List.forall_mem_cons.mpr ⟨kh_974_ok, (List.forall_mem_cons.mpr ⟨kh_975_ok, (List.forall_mem_cons.mpr ⟨kh_976_ok, (List.forall_mem_cons.mpr ⟨kh_977_ok, (List.forall_mem_cons.mpr ⟨kh_978_ok, (List.forall_mem_cons.mpr ⟨kh_979_ok, (List.forall_mem_cons.mpr ⟨kh_980_ok, (List.forall_mem_cons.mpr ⟨kh_981_ok, (List.forall_mem_cons.mpr ⟨kh_982_ok, (List.forall_mem_cons.mpr ⟨kh_983_ok, (List.forall_mem_cons.mpr ⟨kh_984_ok, (List.forall_mem_cons.mpr ⟨kh_985_ok, (List.forall_mem_cons.mpr ⟨kh_986_ok, (List.forall_mem_cons.mpr ⟨kh_987_ok, (List.forall_mem_cons.mpr ⟨kh_988_ok, (List.forall_mem_cons.mpr ⟨kh_989_ok, (List.forall_mem_nil _)⟩)⟩)⟩)⟩)⟩)⟩)⟩)⟩)⟩)⟩)⟩)⟩)⟩)⟩)⟩)⟩)⟩)⟩)⟩)⟩)⟩)⟩)⟩)⟩)⟩)⟩)⟩)⟩)⟩)⟩)⟩) (by decide +kernel) (fun l D tc ad kd N sm xs S p e s m args below meth c sz lv G H0 => by
  have hx : xs.length = 3 := by rw [H0.2.1.1]; rfl
  have hP : ∀ (k : Nat), kh_bestJob_I l D tc ad kd N sm xs S p e s m args below meth c sz k := by
    intro k
    induction k with
    | zero => exact ⟨fun _ _ _ _ _ _ h => absurd h (Nat.not_lt_zero _), fun _ _ _ _ _ _ h => absurd h (Nat.not_lt_zero _), fun _ _ _ _ _ _ h => absurd h (Nat.not_lt_zero _), fun _ _ _ _ _ _ h => absurd h (Nat.not_lt_zero _), fun _ _ _ _ _ _ h => absurd h (Nat.not_lt_zero _), trivial⟩
    | succ k ih => exact ⟨kh_bestJob_h8 G H0 ih, kh_bestJob_h43 G H0 ih, kh_bestJob_h71 G H0 ih, kh_bestJob_h96 G H0 ih, kh_bestJob_h167 G H0 ih, trivial⟩
  obtain ⟨α1, hle, Hr⟩ := as_recM (pl := []) [] (by decide +kernel) H0
  have hf := H0.2.2.2.2.2.2.2.2.2.2.1
  have hl1 : α1.length = 3 := by rw [Hr.2.1.1]; rfl
  have hl0 : xs.length = 3 := by rw [H0.2.1.1]; rfl
  have hxa : al_le xs α1 := H0.1.trans hle
  obtain ⟨g1, -, g3, g4, -⟩ := as_fx Hr
  have g0 : (572 ≤ nv α1 0 ∧ nv α1 0 ≤ 572) ∧ (1 ≤ nv α1 1 ∧ nv α1 1 ≤ 1) ∧ (0 ≤ nv α1 2 ∧ nv α1 2 ≤ 3) ∧ True := by
    refine ⟨by have h := (en_nv (i := 0) Hr.2.1 rfl).2; exact h, by have h := (en_nv (i := 1) Hr.2.1 rfl).2; exact h, by have h := (en_nv (i := 2) Hr.2.1 rfl).2; exact h, trivial⟩
  have r0 : nv α1 0 = nv xs 0 := nv_le hle (by omega)
  have r1 : nv α1 1 = nv xs 1 := nv_le hle (by omega)
  have r2 : nv α1 2 = nv xs 2 := nv_le hle (by omega)
  refine hd_segMR G (na := 3) (fuel := 600) (first := true) (Bs := [kh_bestJob_b0_0]) (by decide +kernel) hl1 Hr ?_
  intro q hq β lv' st' S' H1
  simp only [List.mem_cons, List.not_mem_nil, or_false] at hq
  rcases hq with rfl
  · obtain ⟨f1, f2, f3, f4, f5⟩ := as_fx H1
    simp only [kh_bestJob_b0_0, Nat.reduceEqDiff, if_false, fx_env, fx_c, fx_ne, fx_hf, wl_S, Nat.zero_add, Nat.reduceAdd, Nat.reduceDiv, Nat.reduceMod, List.getElem?_cons_zero, List.getElem?_cons_succ, if_true, and_true, true_and] at f1 f2 f3 f4 f5
    have fe0 : nv β 0 = 572 := by omega
    have fe1 : nv β 1 = 1 := by omega
    have fe3 : nv β 3 = (-1) := by omega
    have fe4 : nv β 4 = 0 := by omega
    have fe5 : nv β 5 = 0 := by omega
    try simp only [fe0, fe1, fe3, fe4, fe5, Int.reduceToNat] at f2 f3 f4 f5
    have s0 : nv β 0 = nv α1 0 := nv_le H1.1 (by omega)
    have s1 : nv β 1 = nv α1 1 := nv_le H1.1 (by omega)
    have s2 : nv β 2 = nv α1 2 := nv_le H1.1 (by omega)
    obtain ⟨α', Ha, hm⟩ := hd_gpM (q := kh_bestJob_a8) (n := 0) (by decide +kernel) hx H1 (by decide +kernel) hxa hf
    have hfr := H1.2.2.2.2.2.2.2.2.2.2.1
    have m0 : nv α' 0 = nv β 0 := hm 0 0 rfl
    have m1 : nv α' 1 = nv β 1 := hm 1 1 rfl
    have m2 : nv α' 2 = nv β 2 := hm 2 2 rfl
    have m3 : nv α' 3 = nv β 3 := hm 3 3 rfl
    have m4 : nv α' 4 = nv β 4 := hm 4 4 rfl
    have m5 : nv α' 5 = nv β 5 := hm 5 5 rfl
    subst S'
    refine (hP _).1 _ _ _ _ Ha ?_ (Nat.lt_succ_self _)
    · rw [m3]; exact Or.inl (by omega))
theorem kh_bestJob_ok : ct_ok wd_fl2 kh_bestJob := ct_okR_ok kh_bestJob_okR
/- UtilityWorks$Crews partsFor -/
def kh_990 : ct_T := (137, [(2, 572, 572, 1), (2, 579, 778, 1)], [], [], [(1, (0, 0, 0, 0), [(2, 572, 572, 1), (2, 579, 778, 1)], [], ([], [])), (1, (0, 2, 2, 0), [(2, 572, 572, 1), (2, 579, 778, 1)], [], ([], [])), (1, (0, 1, 1, 0), [(2, 572, 572, 1), (2, 579, 778, 1)], [], ([], []))], [], 0, 0, 0)
theorem kh_990_ok : ct_ok wd_fl2 kh_990 := ct_of (ff := wd_ff2) (y := (⟨"UtilityWorks$Crews", "partsFor", "([I)I"⟩, prog_3_method_17_code, 2, some .int, 1, 1, 1, 26164, 26163, 2008, 21011)) (Cs := []) (an := []) (ss := []) (K := 1) (fuel := 4000) wd_fl2_ok rfl (List.forall_mem_nil _) (by decide +kernel)
/- UtilityWorks$Grid holds -/
def kh_991 : ct_T := (135, [(2, 8, 8, 1), (0, 0, 15, 1), (0, 0, 999, 1)], [], [], [(1, (0, 1, 1, 0), [(2, 8, 8, 1), (0, 0, 15, 1), (0, 0, 999, 1)], [], ([], [])), (1, (0, 0, 0, 0), [(2, 8, 8, 1), (0, 0, 15, 1), (0, 0, 999, 1)], [], ([], []))], [], 0, 0, 0)
theorem kh_991_ok : ct_ok wd_fl2 kh_991 := ct_of (ff := wd_ff2) (y := (⟨"UtilityWorks$Grid", "holds", "(II)Z"⟩, prog_5_method_27_code, 4, some .boolean, 3, 1, 2, 26156, 26154, 26155, 21004)) (Cs := []) (an := [(32, 0, ([((2, 8, 8, 1), none), ((0, 0, 15, 1), none), ((0, 0, 999, 1), none), ((2, 80, 95, 1), none)], [(0, 0), (1, 1), (2, 2), (3, 3)], [], [], [], [], [], [], none), [(0, 0, 99968)])]) (ss := []) (K := 1) (fuel := 4000) wd_fl2_ok rfl (List.forall_mem_nil _) (by decide +kernel)
/- UtilityWorks$Grid holderOn -/
def kh_992 : ct_T := (134, [(2, 8, 8, 1), (0, 0, 16, 1), (0, 0, 999, 1)], [], [], [(1, (0, (-1), (-1), 0), [(2, 8, 8, 1), (0, 0, 16, 1), (0, 0, 999, 1)], [], ([], [])), (1, (0, 0, 15, 1), [(2, 8, 8, 1), (0, 0, 16, 1), (0, 0, 999, 1)], [], ([], []))], [], 1, 23, 0)
theorem kh_992_ok : ct_ok wd_fl2 kh_992 := ct_of (ff := wd_ff2) (y := (⟨"UtilityWorks$Grid", "holderOn", "(II)I"⟩, prog_5_method_28_code, 4, some .int, 3, 1, 2, 26152, 26150, 26151, 21004)) (Cs := [kh_991]) (an := [(2, 0, ([((2, 8, 8, 1), none), ((0, 0, 16, 1), none), ((0, 0, 999, 1), none), ((0, 0, 16, 1), none)], [(0, 0), (1, 1), (2, 2), (3, 3)], [], [], [], [], [], [], none), [(0, 0, 99998), (1, 3, 16), (0, 0, 99998)]), (31, 0, ([((2, 8, 8, 1), none), ((0, 0, 16, 1), none), ((0, 0, 999, 1), none), ((0, 0, 15, 1), none)], [(0, 0), (1, 1), (2, 2), (3, 3)], [], [], [], [], [], [], none), [(0, 0, 99998), (1, 3, 16), (0, 0, 99969)])]) (ss := []) (K := 3) (fuel := 4000) wd_fl2_ok rfl (List.forall_mem_cons.mpr ⟨kh_991_ok, (List.forall_mem_nil _)⟩) (by decide +kernel)
/- UtilityWorks$Grid isFor -/
def kh_993 : ct_T := (136, [(2, 8, 8, 1), (0, 0, 15, 1), (0, 0, 2, 1)], [], [], [(1, (0, 0, 0, 0), [(2, 8, 8, 1), (0, 0, 15, 1), (0, 0, 2, 1)], [], ([], [])), (1, (0, 1, 1, 0), [(2, 8, 8, 1), (0, 0, 15, 1), (0, 0, 2, 1)], [], ([], []))], [], 0, 0, 0)
theorem kh_993_ok : ct_ok wd_fl2 kh_993 := ct_of (ff := wd_ff2) (y := (⟨"UtilityWorks$Grid", "isFor", "(II)Z"⟩, prog_5_method_26_code, 3, some .boolean, 3, 1, 2, 26160, 26158, 26159, 21004)) (Cs := []) (an := [(28, 0, ([((2, 8, 8, 1), none), ((0, 0, 15, 1), none), ((0, 0, 2, 1), none)], [(0, 0), (1, 1), (2, 2)], [], [], [], [], [], [], none), [(0, 0, 99972)])]) (ss := []) (K := 1) (fuel := 4000) wd_fl2_ok rfl (List.forall_mem_nil _) (by decide +kernel)
/- UtilityWorks$Grid mayDigFor -/
def kh_994 : ct_T := (133, [(2, 8, 8, 1), (0, 0, 2, 1), (0, 0, 16, 1), (0, 0, 999, 1)], [], [], [(1, (0, 1, 1, 0), [(2, 8, 8, 1), (0, 0, 2, 1), (0, 0, 16, 1), (0, 0, 999, 1)], [], ([], [])), (1, (0, 0, 0, 0), [(2, 8, 8, 1), (0, 0, 2, 1), (0, 0, 16, 1), (0, 0, 999, 1)], [], ([], []))], [], 2, 46, 0)
theorem kh_994_ok : ct_ok wd_fl2 kh_994 := ct_of (ff := wd_ff2) (y := (⟨"UtilityWorks$Grid", "mayDigFor", "(III)Z"⟩, prog_5_method_29_code, 5, some .boolean, 3, 1, 3, 26148, 26146, 26147, 21004)) (Cs := [kh_992, kh_993]) (an := [(28, 0, ([((2, 8, 8, 1), none), ((0, 0, 2, 1), none), ((0, 0, 16, 1), none), ((0, 0, 999, 1), none), ((0, (-1), 15, 1), none)], [(0, 0), (1, 1), (2, 2), (3, 3), (4, 4)], [], [], [], [], [], [], none), [(0, 0, 99972)])]) (ss := []) (K := 1) (fuel := 4000) wd_fl2_ok rfl (List.forall_mem_cons.mpr ⟨kh_992_ok, (List.forall_mem_cons.mpr ⟨kh_993_ok, (List.forall_mem_nil _)⟩)⟩) (by decide +kernel)
/- UtilityWorks$Stores has -/
def kh_995 : ct_T := (138, [(2, 779, 779, 1), (0, 0, 2, 1), (0, 1, 2, 1)], [], [], [(1, (0, 0, 0, 0), [(2, 779, 779, 1), (0, 0, 2, 1), (0, 1, 2, 1)], [], ([], [])), (1, (0, 1, 1, 0), [(2, 779, 779, 1), (0, 0, 2, 1), (0, 1, 2, 1)], [], ([], []))], [], 0, 0, 0)
theorem kh_995_ok : ct_ok wd_fl2 kh_995 := ct_of (ff := wd_ff2) (y := (⟨"UtilityWorks$Stores", "has", "(II)Z"⟩, prog_9_method_3_code, 3, some .boolean, 7, 1, 2, 26168, 26166, 26167, 21012)) (Cs := []) (an := []) (ss := []) (K := 1) (fuel := 4000) wd_fl2_ok rfl (List.forall_mem_nil _) (by decide +kernel)
/- UtilityWorks$Crews lacksSomething -/
def kh_996 : ct_T := (132, [(2, 572, 572, 1), (2, 1, 1, 1), (2, 579, 778, 1), (0, (-2147483648), 2147483647, 1)], [], [], [(1, (0, 0, 0, 0), [(2, 572, 572, 1), (2, 1, 1, 1), (2, 579, 778, 1), (0, (-2147483648), 2147483647, 1)], [], ([], [])), (1, (0, 1, 1, 0), [(2, 572, 572, 1), (2, 1, 1, 1), (2, 579, 778, 1), (0, (-2147483648), 2147483647, 1)], [], ([], []))], [], 3, 70, 0)
theorem kh_996_ok : ct_ok wd_fl2 kh_996 := ct_of (ff := wd_ff2) (y := (⟨"UtilityWorks$Crews", "lacksSomething", "(LUtilityWorks$Town;[II)Z"⟩, prog_3_method_18_code, 6, some .boolean, 1, 1, 3, 26144, 26143, 2007, 21011)) (Cs := [kh_990, kh_919, kh_994, kh_995]) (an := [(69, 0, ([((2, 572, 572, 1), none), ((2, 1, 1, 1), none), ((2, 579, 778, 1), none), ((0, (-2147483648), 2147483647, 1), none), ((0, 1, 2, 1), none)], [(0, 0), (1, 1), (2, 2), (3, 3), (4, 4)], [], [], [], [], [], [], none), [(0, 0, 99931)]), (96, 0, ([((2, 572, 572, 1), none), ((2, 1, 1, 1), none), ((2, 579, 778, 1), none), ((0, (-2147483648), 2147483647, 1), none), ((0, 1, 2, 1), none), ((0, 0, 1, 1), none)], [(0, 0), (1, 1), (2, 2), (3, 3), (4, 4), (5, 5)], [], [], [], [], [], [], none), [(0, 0, 99904)]), (100, 0, ([((2, 572, 572, 1), none), ((2, 1, 1, 1), none), ((2, 579, 778, 1), none), ((0, (-2147483648), 2147483647, 1), none), ((0, 1, 2, 1), none), ((0, 0, 0, 0), none)], [(0, 0), (1, 1), (2, 2), (3, 3), (4, 4), (5, 5)], [], [], [], [], [], [], none), [(0, 0, 99900)])]) (ss := []) (K := 1) (fuel := 4000) wd_fl2_ok rfl (List.forall_mem_cons.mpr ⟨kh_990_ok, (List.forall_mem_cons.mpr ⟨kh_919_ok, (List.forall_mem_cons.mpr ⟨kh_994_ok, (List.forall_mem_cons.mpr ⟨kh_995_ok, (List.forall_mem_nil _)⟩)⟩)⟩)⟩) (by decide +kernel)
abbrev kh_doSpell_y : mt_T := (⟨"UtilityWorks$Crews", "doSpell", "(LUtilityWorks$Town;I)V"⟩, prog_3_method_15_code, 6, none, 1, 1, 2, 26133, 26132, 2005, 21011)
def kh_doSpell : ct_T := (130, [(2, 572, 572, 1), (2, 1, 1, 1), (0, 0, 3, 1)], [], [520, 521, 522], [(0, (0, 0, 0, 0), [(2, 572, 572, 1), (2, 1, 1, 1), (0, 0, 3, 1)], [], ([520, 521, 522], []))], [((2, 2), (4, 4, 0)), ((3, 3), (0, 16, 1)), ((4, 4), (0, 11, 1)), ((5, 5), (0, 11, 1)), ((6, 6), (0, 11, 1)), ((10, 60), (0, 0, 0)), ((10, 60), (1, 1, 0)), ((10, 60), (2, 2, 0)), ((10, 60), (3, 3, 0)), ((62, 78), (3, 3, 0)), ((62, 78), (6, 6, 0)), ((167, 176), (2, 2, 0)), ((167, 176), (12, 12, 0)), ((179, 208), (3, 13, 1)), ((574, 577), (3, 3, 0)), ((574, 577), (4, 4, 0)), ((574, 577), (6, 6, 0)), ((579, 778), (4, 4, 0)), ((781, 784), (0, 0, 0)), ((781, 784), (4, 4, 0))], 4, 95, 0)
def kh_doSpell_a128 : an_T := (128, 0, ([((2, 572, 572, 1), none), ((2, 1, 1, 1), none), ((0, 0, 3, 1), none), ((2, 574, 577, 1), none), ((2, 579, 778, 1), none), ((0, 0, 1, 1), none)], [(0, 0), (1, 1), (2, 2), (3, 3), (4, 4), (5, 5)], [], [], [], [], [], [520, 521, 522], none), [])
def kh_doSpell_b0_0 : sg_T := (128, 0, ([((2, 572, 572, 1), none), ((2, 1, 1, 1), none), ((0, 0, 3, 1), none), ((2, 573, 573, 1), none), ((2, 574, 577, 1), none), ((0, 3, 3, 0), none), ((0, 0, 199, 1), none), ((0, (-1), (-1), 0), none), ((2, 578, 578, 1), none), ((0, 3, 3, 0), none), ((2, 579, 778, 1), none), ((0, 1, 1, 1), none), ((0, 4, 4, 0), none), ((0, (-2147483648), 2147483647, 1), none), ((0, 1, 1, 0), none), ((0, (-2147483648), 2147483647, 1), none)], [(5, 11), (4, 10), (3, 4), (0, 0), (1, 1), (2, 2)], [], [(4, 12, 15), (8, 6, 10), (4, 5, 6), (3, 2, 4)], [(11, 0), (6, (-1))], [(800013, 4, 12), (400000, 6, 7), (800006, 4, 5)], [], [520, 521, 522], some [(4, 12, 15)]))
def kh_doSpell_b0_1 : sg_T := (149, 0, ([((2, 572, 572, 1), none), ((2, 1, 1, 1), none), ((0, 0, 3, 1), none), ((2, 573, 573, 1), none), ((2, 574, 577, 1), none), ((0, 3, 3, 0), none), ((0, 0, 199, 1), none), ((0, (-1), (-1), 0), none), ((2, 578, 578, 1), none), ((0, 3, 3, 0), none), ((2, 579, 778, 1), none), ((0, 0, 0, 1), none), ((0, 4, 4, 0), none), ((0, (-2147483648), 2147483647, 1), none), ((0, 0, 0, 0), none), ((0, 4, 4, 0), none), ((0, 4, 4, 0), none), ((0, 1, 1, 0), none), ((0, (-2147483648), 2, 1), none), ((0, 4, 4, 0), none), ((3, 7, 7, 0), none), ((0, 0, 0, 0), none), ((0, 0, 6, 1), none), ((0, 1, 3, 1), none)], [(5, 11), (4, 10), (3, 4), (0, 0), (1, 1), (2, 2)], [], [(10, 21, 22), (4, 16, 18), (8, 6, 10), (4, 5, 6), (3, 2, 4)], [(13, 0), (6, (-1))], [(100000, 18, 23), (800013, 4, 12), (400000, 6, 7), (800006, 4, 5)], [], [520, 521, 522], some [(4, 16, 18)]))
def kh_doSpell_b0_2 : sg_T := (128, 0, ([((2, 572, 572, 1), none), ((2, 1, 1, 1), none), ((0, 0, 3, 1), none), ((2, 573, 573, 1), none), ((2, 574, 577, 1), none), ((0, 3, 3, 0), none), ((0, 0, 199, 1), none), ((0, (-1), (-1), 0), none), ((2, 578, 578, 1), none), ((0, 3, 3, 0), none), ((2, 579, 778, 1), none), ((0, 0, 0, 1), none), ((0, 4, 4, 0), none), ((0, (-2147483648), 2147483647, 1), none), ((0, 0, 0, 0), none), ((0, 4, 4, 0), none), ((0, 4, 4, 0), none), ((0, 1, 1, 0), none), ((0, 1, 2147483647, 1), none), ((0, 4, 4, 0), none), ((3, 7, 7, 0), none), ((0, 0, 0, 0), none), ((0, 0, 6, 1), none), ((0, 1, 3, 1), none)], [(5, 11), (4, 10), (3, 4), (0, 0), (1, 1), (2, 2)], [], [(10, 21, 22), (4, 16, 18), (8, 6, 10), (4, 5, 6), (3, 2, 4)], [(13, 0), (6, (-1))], [(200000, 23, 18), (800013, 4, 12), (400000, 6, 7), (800006, 4, 5)], [], [520, 520, 521, 522], none))
def kh_doSpell_b0_3 : sg_T := (149, 0, ([((2, 572, 572, 1), none), ((2, 1, 1, 1), none), ((0, 0, 3, 1), none), ((2, 573, 573, 1), none), ((2, 574, 577, 1), none), ((0, 3, 3, 0), none), ((0, 0, 199, 1), none), ((0, (-1), (-1), 0), none), ((2, 578, 578, 1), none), ((0, 3, 3, 0), none), ((2, 579, 778, 1), none), ((0, 0, 0, 1), none), ((0, 4, 4, 0), none), ((0, 0, 0, 1), none), ((0, 0, 0, 0), none), ((0, 4, 4, 0), none), ((0, 0, 0, 0), none), ((0, 4, 4, 0), none), ((0, 1, 1, 0), none), ((0, 1, 1, 1), some (13, 1)), ((0, 4, 4, 0), none), ((3, 7, 7, 0), none), ((0, 0, 0, 0), none), ((0, 0, 6, 1), none), ((0, 2, 3, 1), none)], [(5, 11), (4, 10), (3, 4), (0, 0), (1, 1), (2, 2)], [], [(10, 22, 23), (4, 17, 19), (8, 6, 10), (4, 5, 6), (3, 2, 4)], [(6, (-1))], [(100000, 19, 24), (500019, 13, 18), (800013, 4, 12), (400000, 6, 7), (800006, 4, 5)], [], [520, 521, 522], some [(4, 17, 19)]))
def kh_doSpell_b0_4 : sg_T := (128, 0, ([((2, 572, 572, 1), none), ((2, 1, 1, 1), none), ((0, 0, 3, 1), none), ((2, 573, 573, 1), none), ((2, 574, 577, 1), none), ((0, 3, 3, 0), none), ((0, 0, 199, 1), none), ((0, (-1), (-1), 0), none), ((2, 578, 578, 1), none), ((0, 3, 3, 0), none), ((2, 579, 778, 1), none), ((0, 0, 0, 1), none), ((0, 4, 4, 0), none), ((0, 0, 0, 1), none), ((0, 0, 0, 0), none), ((0, 4, 4, 0), none), ((0, 0, 0, 0), none), ((0, 4, 4, 0), none), ((0, 1, 1, 0), none), ((0, 1, 1, 1), some (13, 1)), ((0, 4, 4, 0), none), ((3, 7, 7, 0), none), ((0, 0, 0, 0), none), ((0, 0, 6, 1), none), ((0, 1, 1, 1), none)], [(5, 11), (4, 10), (3, 4), (0, 0), (1, 1), (2, 2)], [], [(10, 22, 23), (4, 17, 19), (8, 6, 10), (4, 5, 6), (3, 2, 4)], [(6, (-1))], [(200000, 24, 19), (500019, 13, 18), (800013, 4, 12), (400000, 6, 7), (800006, 4, 5)], [], [520, 520, 521, 522], none))
def kh_doSpell_b0_5 : sg_T := (149, 0, ([((2, 572, 572, 1), none), ((2, 1, 1, 1), none), ((0, 0, 3, 1), none), ((2, 573, 573, 1), none), ((2, 574, 577, 1), none), ((0, 3, 3, 0), none), ((0, 0, 199, 1), none), ((0, (-1), (-1), 0), none), ((2, 578, 578, 1), none), ((0, 3, 3, 0), none), ((2, 579, 778, 1), none), ((0, 0, 0, 1), none), ((0, 4, 4, 0), none), ((0, 0, 0, 1), none), ((0, 0, 0, 0), none), ((0, 4, 4, 0), none), ((0, 2, 2, 0), none), ((2, 779, 779, 1), none), ((0, 1, 1, 0), none), ((0, 0, 2, 1), none), ((0, 0, 0, 0), none), ((0, 4, 4, 0), none), ((0, 1, 1, 0), none), ((0, 1, 1, 1), some (13, 1)), ((0, 4, 4, 0), none), ((3, 7, 7, 0), none), ((0, 0, 0, 0), none), ((0, 0, 6, 1), none), ((0, 2, 3, 1), none)], [(5, 11), (4, 10), (3, 4), (0, 0), (1, 1), (2, 2)], [], [(10, 26, 27), (4, 21, 23), (10, 18, 19), (8, 6, 10), (4, 5, 6), (3, 2, 4)], [(6, (-1))], [(800019, 10, 18), (800013, 4, 12), (400000, 6, 7), (800006, 4, 5)], [], [522, 520, 521], none))
def kh_doSpell_b0_6 : sg_T := (128, 0, ([((2, 572, 572, 1), none), ((2, 1, 1, 1), none), ((0, 0, 3, 1), none), ((2, 573, 573, 1), none), ((2, 574, 577, 1), none), ((0, 3, 3, 0), none), ((0, 0, 199, 1), none), ((0, (-1), (-1), 0), none), ((2, 578, 578, 1), none), ((0, 3, 3, 0), none), ((2, 579, 778, 1), none), ((0, 0, 0, 1), none), ((0, 4, 4, 0), none), ((0, 0, 0, 1), none), ((0, 0, 0, 0), none), ((0, 4, 4, 0), none), ((0, 2, 2, 0), none), ((2, 779, 779, 1), none), ((0, 1, 1, 0), none), ((0, 0, 2, 1), none), ((0, 0, 0, 0), none), ((0, 4, 4, 0), none), ((0, 1, 1, 0), none), ((0, 1, 1, 1), some (13, 1)), ((0, 4, 4, 0), none), ((3, 7, 7, 0), none), ((0, 0, 0, 0), none), ((0, 0, 6, 1), none), ((0, 1, 1, 1), none)], [(5, 11), (4, 10), (3, 4), (0, 0), (1, 1), (2, 2)], [], [(10, 26, 27), (4, 21, 23), (10, 18, 19), (8, 6, 10), (4, 5, 6), (3, 2, 4)], [(6, (-1))], [(800019, 10, 18), (800013, 4, 12), (400000, 6, 7), (800006, 4, 5)], [], [520, 522, 520, 521], none))
def kh_doSpell_b0_7 : sg_T := (149, 0, ([((2, 572, 572, 1), none), ((2, 1, 1, 1), none), ((0, 0, 3, 1), none), ((2, 573, 573, 1), none), ((2, 574, 577, 1), none), ((0, 3, 3, 0), none), ((0, 0, 199, 1), none), ((0, (-1), (-1), 0), none), ((2, 578, 578, 1), none), ((0, 3, 3, 0), none), ((2, 579, 778, 1), none), ((0, 0, 0, 1), none), ((0, 4, 4, 0), none), ((0, 0, 0, 1), none), ((0, 0, 0, 0), none), ((0, 4, 4, 0), none), ((0, 2, 2, 0), none), ((2, 779, 779, 1), none), ((0, 1, 1, 0), none), ((0, 0, 2, 1), none), ((0, 2, 2, 0), none), ((0, 4, 4, 0), none), ((0, 1, 1, 0), none), ((0, 1, 1, 1), some (13, 1)), ((0, 4, 4, 0), none), ((3, 7, 7, 0), none), ((0, 0, 0, 0), none), ((0, 0, 6, 1), none), ((0, 2, 3, 1), none)], [(5, 11), (4, 10), (3, 4), (0, 0), (1, 1), (2, 2)], [], [(10, 26, 27), (4, 21, 23), (10, 18, 19), (8, 6, 10), (4, 5, 6), (3, 2, 4)], [(6, (-1))], [(800019, 10, 18), (800013, 4, 12), (400000, 6, 7), (800006, 4, 5)], [], [522, 520, 521], none))
def kh_doSpell_b0_8 : sg_T := (128, 0, ([((2, 572, 572, 1), none), ((2, 1, 1, 1), none), ((0, 0, 3, 1), none), ((2, 573, 573, 1), none), ((2, 574, 577, 1), none), ((0, 3, 3, 0), none), ((0, 0, 199, 1), none), ((0, (-1), (-1), 0), none), ((2, 578, 578, 1), none), ((0, 3, 3, 0), none), ((2, 579, 778, 1), none), ((0, 0, 0, 1), none), ((0, 4, 4, 0), none), ((0, 0, 0, 1), none), ((0, 0, 0, 0), none), ((0, 4, 4, 0), none), ((0, 2, 2, 0), none), ((2, 779, 779, 1), none), ((0, 1, 1, 0), none), ((0, 0, 2, 1), none), ((0, 2, 2, 0), none), ((0, 4, 4, 0), none), ((0, 1, 1, 0), none), ((0, 1, 1, 1), some (13, 1)), ((0, 4, 4, 0), none), ((3, 7, 7, 0), none), ((0, 0, 0, 0), none), ((0, 0, 6, 1), none), ((0, 1, 1, 1), none)], [(5, 11), (4, 10), (3, 4), (0, 0), (1, 1), (2, 2)], [], [(10, 26, 27), (4, 21, 23), (10, 18, 19), (8, 6, 10), (4, 5, 6), (3, 2, 4)], [(6, (-1))], [(800019, 10, 18), (800013, 4, 12), (400000, 6, 7), (800006, 4, 5)], [], [520, 522, 520, 521], none))
def kh_doSpell_b0_9 : sg_T := (149, 0, ([((2, 572, 572, 1), none), ((2, 1, 1, 1), none), ((0, 0, 3, 1), none), ((2, 573, 573, 1), none), ((2, 574, 577, 1), none), ((0, 3, 3, 0), none), ((0, 0, 199, 1), none), ((0, (-1), (-1), 0), none), ((2, 578, 578, 1), none), ((0, 3, 3, 0), none), ((2, 579, 778, 1), none), ((0, 0, 0, 1), none), ((0, 4, 4, 0), none), ((0, 0, 0, 1), none), ((0, 0, 0, 0), none), ((0, 4, 4, 0), none), ((0, 2, 2, 0), none), ((2, 779, 779, 1), none), ((0, 1, 1, 0), none), ((0, 0, 2, 1), none), ((0, 1, 1, 0), none), ((0, 4, 4, 0), none), ((0, 1, 1, 0), none), ((0, 1, 1, 1), some (13, 1)), ((0, 4, 4, 0), none), ((3, 7, 7, 0), none), ((0, 0, 0, 0), none), ((0, 0, 6, 1), none), ((0, 2, 3, 1), none)], [(5, 11), (4, 10), (3, 4), (0, 0), (1, 1), (2, 2)], [], [(10, 26, 27), (4, 21, 23), (10, 18, 19), (8, 6, 10), (4, 5, 6), (3, 2, 4)], [(6, (-1))], [(800019, 10, 18), (800013, 4, 12), (400000, 6, 7), (800006, 4, 5)], [], [522, 520, 521], none))
def kh_doSpell_b0_10 : sg_T := (128, 0, ([((2, 572, 572, 1), none), ((2, 1, 1, 1), none), ((0, 0, 3, 1), none), ((2, 573, 573, 1), none), ((2, 574, 577, 1), none), ((0, 3, 3, 0), none), ((0, 0, 199, 1), none), ((0, (-1), (-1), 0), none), ((2, 578, 578, 1), none), ((0, 3, 3, 0), none), ((2, 579, 778, 1), none), ((0, 0, 0, 1), none), ((0, 4, 4, 0), none), ((0, 0, 0, 1), none), ((0, 0, 0, 0), none), ((0, 4, 4, 0), none), ((0, 2, 2, 0), none), ((2, 779, 779, 1), none), ((0, 1, 1, 0), none), ((0, 0, 2, 1), none), ((0, 1, 1, 0), none), ((0, 4, 4, 0), none), ((0, 1, 1, 0), none), ((0, 1, 1, 1), some (13, 1)), ((0, 4, 4, 0), none), ((3, 7, 7, 0), none), ((0, 0, 0, 0), none), ((0, 0, 6, 1), none), ((0, 1, 1, 1), none)], [(5, 11), (4, 10), (3, 4), (0, 0), (1, 1), (2, 2)], [], [(10, 26, 27), (4, 21, 23), (10, 18, 19), (8, 6, 10), (4, 5, 6), (3, 2, 4)], [(6, (-1))], [(800019, 10, 18), (800013, 4, 12), (400000, 6, 7), (800006, 4, 5)], [], [520, 522, 520, 521], none))
def kh_doSpell_b0_11 : sg_T := (149, 0, ([((2, 572, 572, 1), none), ((2, 1, 1, 1), none), ((0, 0, 3, 1), none), ((2, 573, 573, 1), none), ((2, 574, 577, 1), none), ((0, 3, 3, 0), none), ((0, 0, 199, 1), none), ((0, (-1), (-1), 0), none), ((2, 578, 578, 1), none), ((0, 3, 3, 0), none), ((2, 579, 778, 1), none), ((0, 0, 0, 1), none), ((0, 4, 4, 0), none), ((0, 0, 0, 1), none), ((0, 0, 0, 0), none), ((0, 4, 4, 0), none), ((0, 1, 1, 0), none), ((2, 779, 779, 1), none), ((0, 1, 1, 0), none), ((0, 0, 2, 1), none), ((0, 0, 0, 0), none), ((0, 4, 4, 0), none), ((0, 1, 1, 0), none), ((0, 1, 1, 1), some (13, 1)), ((0, 4, 4, 0), none), ((3, 7, 7, 0), none), ((0, 0, 0, 0), none), ((0, 0, 6, 1), none), ((0, 2, 3, 1), none)], [(5, 11), (4, 10), (3, 4), (0, 0), (1, 1), (2, 2)], [], [(10, 26, 27), (4, 21, 23), (10, 18, 19), (8, 6, 10), (4, 5, 6), (3, 2, 4)], [(6, (-1))], [(800019, 10, 18), (800013, 4, 12), (400000, 6, 7), (800006, 4, 5)], [], [522, 520, 521], none))
def kh_doSpell_b0_12 : sg_T := (128, 0, ([((2, 572, 572, 1), none), ((2, 1, 1, 1), none), ((0, 0, 3, 1), none), ((2, 573, 573, 1), none), ((2, 574, 577, 1), none), ((0, 3, 3, 0), none), ((0, 0, 199, 1), none), ((0, (-1), (-1), 0), none), ((2, 578, 578, 1), none), ((0, 3, 3, 0), none), ((2, 579, 778, 1), none), ((0, 0, 0, 1), none), ((0, 4, 4, 0), none), ((0, 0, 0, 1), none), ((0, 0, 0, 0), none), ((0, 4, 4, 0), none), ((0, 1, 1, 0), none), ((2, 779, 779, 1), none), ((0, 1, 1, 0), none), ((0, 0, 2, 1), none), ((0, 0, 0, 0), none), ((0, 4, 4, 0), none), ((0, 1, 1, 0), none), ((0, 1, 1, 1), some (13, 1)), ((0, 4, 4, 0), none), ((3, 7, 7, 0), none), ((0, 0, 0, 0), none), ((0, 0, 6, 1), none), ((0, 1, 1, 1), none)], [(5, 11), (4, 10), (3, 4), (0, 0), (1, 1), (2, 2)], [], [(10, 26, 27), (4, 21, 23), (10, 18, 19), (8, 6, 10), (4, 5, 6), (3, 2, 4)], [(6, (-1))], [(800019, 10, 18), (800013, 4, 12), (400000, 6, 7), (800006, 4, 5)], [], [520, 522, 520, 521], none))
def kh_doSpell_b0_13 : sg_T := (149, 0, ([((2, 572, 572, 1), none), ((2, 1, 1, 1), none), ((0, 0, 3, 1), none), ((2, 573, 573, 1), none), ((2, 574, 577, 1), none), ((0, 3, 3, 0), none), ((0, 0, 199, 1), none), ((0, (-1), (-1), 0), none), ((2, 578, 578, 1), none), ((0, 3, 3, 0), none), ((2, 579, 778, 1), none), ((0, 0, 0, 1), none), ((0, 4, 4, 0), none), ((0, 0, 0, 1), none), ((0, 0, 0, 0), none), ((0, 4, 4, 0), none), ((0, 1, 1, 0), none), ((2, 779, 779, 1), none), ((0, 1, 1, 0), none), ((0, 0, 2, 1), none), ((0, 2, 2, 0), none), ((0, 4, 4, 0), none), ((0, 1, 1, 0), none), ((0, 1, 1, 1), some (13, 1)), ((0, 4, 4, 0), none), ((3, 7, 7, 0), none), ((0, 0, 0, 0), none), ((0, 0, 6, 1), none), ((0, 2, 3, 1), none)], [(5, 11), (4, 10), (3, 4), (0, 0), (1, 1), (2, 2)], [], [(10, 26, 27), (4, 21, 23), (10, 18, 19), (8, 6, 10), (4, 5, 6), (3, 2, 4)], [(6, (-1))], [(800019, 10, 18), (800013, 4, 12), (400000, 6, 7), (800006, 4, 5)], [], [522, 520, 521], none))
def kh_doSpell_b0_14 : sg_T := (128, 0, ([((2, 572, 572, 1), none), ((2, 1, 1, 1), none), ((0, 0, 3, 1), none), ((2, 573, 573, 1), none), ((2, 574, 577, 1), none), ((0, 3, 3, 0), none), ((0, 0, 199, 1), none), ((0, (-1), (-1), 0), none), ((2, 578, 578, 1), none), ((0, 3, 3, 0), none), ((2, 579, 778, 1), none), ((0, 0, 0, 1), none), ((0, 4, 4, 0), none), ((0, 0, 0, 1), none), ((0, 0, 0, 0), none), ((0, 4, 4, 0), none), ((0, 1, 1, 0), none), ((2, 779, 779, 1), none), ((0, 1, 1, 0), none), ((0, 0, 2, 1), none), ((0, 2, 2, 0), none), ((0, 4, 4, 0), none), ((0, 1, 1, 0), none), ((0, 1, 1, 1), some (13, 1)), ((0, 4, 4, 0), none), ((3, 7, 7, 0), none), ((0, 0, 0, 0), none), ((0, 0, 6, 1), none), ((0, 1, 1, 1), none)], [(5, 11), (4, 10), (3, 4), (0, 0), (1, 1), (2, 2)], [], [(10, 26, 27), (4, 21, 23), (10, 18, 19), (8, 6, 10), (4, 5, 6), (3, 2, 4)], [(6, (-1))], [(800019, 10, 18), (800013, 4, 12), (400000, 6, 7), (800006, 4, 5)], [], [520, 522, 520, 521], none))
def kh_doSpell_b0_15 : sg_T := (149, 0, ([((2, 572, 572, 1), none), ((2, 1, 1, 1), none), ((0, 0, 3, 1), none), ((2, 573, 573, 1), none), ((2, 574, 577, 1), none), ((0, 3, 3, 0), none), ((0, 0, 199, 1), none), ((0, (-1), (-1), 0), none), ((2, 578, 578, 1), none), ((0, 3, 3, 0), none), ((2, 579, 778, 1), none), ((0, 0, 0, 1), none), ((0, 4, 4, 0), none), ((0, 0, 0, 1), none), ((0, 0, 0, 0), none), ((0, 4, 4, 0), none), ((0, 1, 1, 0), none), ((2, 779, 779, 1), none), ((0, 1, 1, 0), none), ((0, 0, 2, 1), none), ((0, 1, 1, 0), none), ((0, 4, 4, 0), none), ((0, 1, 1, 0), none), ((0, 1, 1, 1), some (13, 1)), ((0, 4, 4, 0), none), ((3, 7, 7, 0), none), ((0, 0, 0, 0), none), ((0, 0, 6, 1), none), ((0, 2, 3, 1), none)], [(5, 11), (4, 10), (3, 4), (0, 0), (1, 1), (2, 2)], [], [(10, 26, 27), (4, 21, 23), (10, 18, 19), (8, 6, 10), (4, 5, 6), (3, 2, 4)], [(6, (-1))], [(800019, 10, 18), (800013, 4, 12), (400000, 6, 7), (800006, 4, 5)], [], [522, 520, 521], none))
def kh_doSpell_b0_16 : sg_T := (128, 0, ([((2, 572, 572, 1), none), ((2, 1, 1, 1), none), ((0, 0, 3, 1), none), ((2, 573, 573, 1), none), ((2, 574, 577, 1), none), ((0, 3, 3, 0), none), ((0, 0, 199, 1), none), ((0, (-1), (-1), 0), none), ((2, 578, 578, 1), none), ((0, 3, 3, 0), none), ((2, 579, 778, 1), none), ((0, 0, 0, 1), none), ((0, 4, 4, 0), none), ((0, 0, 0, 1), none), ((0, 0, 0, 0), none), ((0, 4, 4, 0), none), ((0, 1, 1, 0), none), ((2, 779, 779, 1), none), ((0, 1, 1, 0), none), ((0, 0, 2, 1), none), ((0, 1, 1, 0), none), ((0, 4, 4, 0), none), ((0, 1, 1, 0), none), ((0, 1, 1, 1), some (13, 1)), ((0, 4, 4, 0), none), ((3, 7, 7, 0), none), ((0, 0, 0, 0), none), ((0, 0, 6, 1), none), ((0, 1, 1, 1), none)], [(5, 11), (4, 10), (3, 4), (0, 0), (1, 1), (2, 2)], [], [(10, 26, 27), (4, 21, 23), (10, 18, 19), (8, 6, 10), (4, 5, 6), (3, 2, 4)], [(6, (-1))], [(800019, 10, 18), (800013, 4, 12), (400000, 6, 7), (800006, 4, 5)], [], [520, 522, 520, 521], none))
def kh_doSpell_b0_17 : sg_T := (52, 0, ([((2, 572, 572, 1), none), ((2, 1, 1, 1), none), ((0, 0, 3, 1), none), ((2, 573, 573, 1), none), ((2, 574, 577, 1), none), ((0, 3, 3, 0), none), ((0, 0, 199, 1), none), ((0, (-1), (-1), 0), none), ((2, 578, 578, 1), none), ((0, 3, 3, 0), none), ((2, 579, 778, 1), none), ((0, 0, 0, 1), none), ((0, 4, 4, 0), none), ((0, (-2147483648), 2147483647, 1), none), ((0, 1, 1, 0), none)], [(5, 11), (4, 10), (3, 4), (0, 0), (1, 1), (2, 2)], [], [(4, 12, 13), (8, 6, 10), (4, 5, 6), (3, 2, 4)], [(14, 0), (6, (-1))], [(800013, 4, 12), (400000, 6, 7), (800006, 4, 5)], [], [520, 521, 522], some []))
def kh_doSpell_b0_18 : sg_T := (14, 0, ([((2, 572, 572, 1), none), ((2, 1, 1, 1), none), ((0, 0, 3, 1), none), ((2, 573, 573, 1), none), ((2, 574, 577, 1), none), ((0, 3, 3, 0), none), ((0, (-1), (-1), 1), none), ((0, (-1), (-1), 0), none)], [(3, 4), (0, 0), (1, 1), (2, 2)], [], [(4, 5, 6), (3, 2, 4)], [], [(300000, 6, 7), (800006, 4, 5)], [], [520, 521, 522], some []))
def kh_doSpell_b128_0 : sg_T := (149, 0, ([((2, 572, 572, 1), none), ((2, 1, 1, 1), none), ((0, 0, 3, 1), none), ((2, 574, 577, 1), none), ((2, 579, 778, 1), none), ((0, 0, 1, 1), none), ((0, 4, 4, 0), none), ((0, 2, 2, 0), none), ((0, 3, 3, 0), none), ((0, (-1), (-1), 0), none), ((0, 4, 4, 0), none), ((0, 0, 0, 0), none), ((0, 6, 6, 0), none), ((0, (-2147483648), 2147483647, 1), none), ((0, 1, 1, 0), none), ((0, (-2147483648), 2147483647, 1), none)], [(0, 0), (1, 1), (2, 2), (3, 3), (4, 4), (5, 5)], [], [(3, 12, 15), (3, 10, 11), (3, 8, 9), (4, 6, 7)], [], [], [], [520, 522], some [(3, 12, 15), (3, 10, 11), (3, 8, 9), (4, 6, 7)]))
def kh_doSpell_I (l : Launch) (D : va_G) (tc : Nat → ClassId) (ad : Nat → Nat) (kd : Nat → Nat × Nat) (N : Nat) (sm : Nat → Nat) (xs : List av_X) (S : fw_S) (p : Program) (e : Env) (s : State) (m : MethodId) (args : Array Value) (below : List Frame) (meth : Method) (c : Code) (sz : Nat) (k : Nat) : Prop := (∀ (α : List av_X) (lv : List (Nat × Value)) (st : List Value) (S1 : fw_S), as_in ad sm wd_fl2 xs S kh_doSpell.2.2.2.2.2.1 α kh_doSpell_a128.2.2.1 lv st S1 → (nv α 3 = 574 + nv xs 2 ∧ (S1.1 (574 + (nv xs 2).toNat) 3).toInt = nv α 4 - 579 ∧ nv xs 2 < (S1.1 572 0).toInt) → 0 < k → hd_WR R_any wd_fl2 kh_doSpell kh_doSpell_y l D tc ad kd N sm xs S p e s m args below meth c sz 128 lv st S1 0) ∧ True
set_option maxHeartbeats 16000000 in
set_option maxRecDepth 8000 in
theorem kh_doSpell_h128 {l : Launch} {D : va_G} {tc : Nat → ClassId} {ad : Nat → Nat} {kd : Nat → Nat × Nat} {N : Nat} {sm : Nat → Nat} {xs : List av_X} {S : fw_S} {p : Program} {e : Env} {s : State} {m : MethodId} {args : Array Value} {below : List Frame} {meth : Method} {c : Code} {sz : Nat} {lvE : List (Nat × Value)} (G : hd_C wd_ff2 wd_fl2 kh_doSpell [kh_hasNothing, kh_996, kh_finish, kh_990, kh_stTake] kh_doSpell_y l D tc ad kd N sm xs p s m args meth c sz) (H0 : as_in ad sm wd_fl2 xs S kh_doSpell.2.2.2.2.2.1 xs (hd_0 kh_doSpell) lvE [] S) (hpre : P_crew2 xs S) {k : Nat} (ih : kh_doSpell_I l D tc ad kd N sm xs S p e s m args below meth c sz k) : (∀ (α : List av_X) (lv : List (Nat × Value)) (st : List Value) (S1 : fw_S), as_in ad sm wd_fl2 xs S kh_doSpell.2.2.2.2.2.1 α kh_doSpell_a128.2.2.1 lv st S1 → (nv α 3 = 574 + nv xs 2 ∧ (S1.1 (574 + (nv xs 2).toNat) 3).toInt = nv α 4 - 579 ∧ nv xs 2 < (S1.1 572 0).toInt) → 0 < k + 1 → hd_WR R_any wd_fl2 kh_doSpell kh_doSpell_y l D tc ad kd N sm xs S p e s m args below meth c sz 128 lv st S1 0) := by
  have hx : xs.length = 3 := by rw [H0.2.1.1]; rfl
  have x2 := (en_nv (i := 2) H0.2.1 rfl).2
  change 0 ≤ nv xs 2 ∧ nv xs 2 ≤ 3 at x2
  intro α lv st S1 H hp hk
  obtain ⟨α1, hle, Hr⟩ := as_recM (pl := []) [((574, 577), (3, 3, 0)), ((574, 577), (4, 4, 0)), ((574, 577), (6, 6, 0)), ((579, 778), (4, 4, 0))] (by decide +kernel) H
  have hf := H.2.2.2.2.2.2.2.2.2.2.1
  have hl1 : α1.length = 6 := by rw [Hr.2.1.1]; rfl
  have hl0 : α.length = 6 := by rw [H.2.1.1]; rfl
  have hxa : al_le xs α1 := H.1.trans hle
  obtain ⟨g1, -, g3, g4, -⟩ := as_fx Hr
  have g0 : (572 ≤ nv α1 0 ∧ nv α1 0 ≤ 572) ∧ (1 ≤ nv α1 1 ∧ nv α1 1 ≤ 1) ∧ (0 ≤ nv α1 2 ∧ nv α1 2 ≤ 3) ∧ (574 ≤ nv α1 3 ∧ nv α1 3 ≤ 577) ∧ (579 ≤ nv α1 4 ∧ nv α1 4 ≤ 778) ∧ (0 ≤ nv α1 5 ∧ nv α1 5 ≤ 1) ∧ True := by
    refine ⟨by have h := (en_nv (i := 0) Hr.2.1 rfl).2; exact h, by have h := (en_nv (i := 1) Hr.2.1 rfl).2; exact h, by have h := (en_nv (i := 2) Hr.2.1 rfl).2; exact h, by have h := (en_nv (i := 3) Hr.2.1 rfl).2; exact h, by have h := (en_nv (i := 4) Hr.2.1 rfl).2; exact h, by have h := (en_nv (i := 5) Hr.2.1 rfl).2; exact h, trivial⟩
  have r0 : nv α1 0 = nv α 0 := nv_le hle (by omega)
  have r1 : nv α1 1 = nv α 1 := nv_le hle (by omega)
  have r2 : nv α1 2 = nv α 2 := nv_le hle (by omega)
  have r3 : nv α1 3 = nv α 3 := nv_le hle (by omega)
  have r4 : nv α1 4 = nv α 4 := nv_le hle (by omega)
  have r5 : nv α1 5 = nv α 5 := nv_le hle (by omega)
  refine hd_segMR G (na := 6) (fuel := 600) (first := true) (Bs := [kh_doSpell_b128_0]) (by decide +kernel) hl1 Hr ?_
  intro q hq β lv' st' S' H1
  simp only [List.mem_cons, List.not_mem_nil, or_false] at hq
  rcases hq with rfl
  · obtain ⟨f1, f2, f3, f4, f5⟩ := as_fx H1
    simp only [kh_doSpell_b128_0, Nat.reduceEqDiff, if_false, fx_env, fx_c, fx_ne, fx_hf, wl_S, Nat.zero_add, Nat.reduceAdd, Nat.reduceDiv, Nat.reduceMod, List.getElem?_cons_zero, List.getElem?_cons_succ, if_true, and_true, true_and] at f1 f2 f3 f4 f5
    have fe0 : nv β 0 = 572 := by omega
    have fe1 : nv β 1 = 1 := by omega
    have fe6 : nv β 6 = 4 := by omega
    have fe7 : nv β 7 = 2 := by omega
    have fe8 : nv β 8 = 3 := by omega
    have fe9 : nv β 9 = (-1) := by omega
    have fe10 : nv β 10 = 4 := by omega
    have fe11 : nv β 11 = 0 := by omega
    have fe12 : nv β 12 = 6 := by omega
    have fe14 : nv β 14 = 1 := by omega
    try simp only [fe0, fe1, fe6, fe7, fe8, fe9, fe10, fe11, fe12, fe14, Int.reduceToNat] at f2 f3 f4 f5
    have s0 : nv β 0 = nv α1 0 := nv_le H1.1 (by omega)
    have s1 : nv β 1 = nv α1 1 := nv_le H1.1 (by omega)
    have s2 : nv β 2 = nv α1 2 := nv_le H1.1 (by omega)
    have s3 : nv β 3 = nv α1 3 := nv_le H1.1 (by omega)
    have s4 : nv β 4 = nv α1 4 := nv_le H1.1 (by omega)
    have s5 : nv β 5 = nv α1 5 := nv_le H1.1 (by omega)
    have q521 : crewF (vF S1) := by
      have h := H.2.2.2.2.2.2.2.2.1 521 (by decide +kernel)
      rw [wd_fl2, if_neg (by decide)] at h
      exact h
    have wA : ∀ a b : Nat, S'.1 a b = (if a = (nv β 3).toNat ∧ b = 6 then Int32.ofInt (nv β 15) else (if a = (nv β 3).toNat ∧ b = 4 then Int32.ofInt (0) else (if a = (nv β 3).toNat ∧ b = 3 then Int32.ofInt ((-1)) else (if a = (nv β 4).toNat ∧ b = 4 then Int32.ofInt (2) else (S1.1 a b))))) := fun a b => by rw [f5]; rfl
    obtain ⟨p1, p2, p3⟩ := hp
    have hg : crewF (vF S') := by
      refine crew_end (f := vF S1) (k := (nv xs 2).toNat) (j := (nv α 4 - 579).toNat) q521 ?_ ?_ (by omega) (by omega) (fun k' hk' hn => ?_) (fun j' w hj' hw hn => ?_) (by rw [vF_c]; omega) ?_ ?_ ?_
      · rw [vF_c, vF_c, wA]; (repeat' split) <;> first | (exfalso; omega) | rfl | (rw [i32_of (by omega) (by omega)] <;> omega) | omega
      · rw [vF_j, vF_j, wA]; (repeat' split) <;> first | (exfalso; omega) | rfl | (rw [i32_of (by omega) (by omega)] <;> omega) | omega
      · rw [mck_v hk' (by omega), mck_v hk' (by omega), wA]; (repeat' split) <;> first | (exfalso; omega) | rfl | (rw [i32_of (by omega) (by omega)] <;> omega) | omega
      · rw [mjk_v hj' (by omega), mjk_v hj' (by omega), wA]; (repeat' split) <;> first | (exfalso; omega) | rfl | (rw [i32_of (by omega) (by omega)] <;> omega) | omega
      · rw [mck_v (by omega) (by omega), p2]; omega
      · rw [mck_v (by omega) (by omega), wA]; (repeat' split) <;> first | (exfalso; omega) | rfl | (rw [i32_of (by omega) (by omega)] <;> omega) | omega
      · have e4 : mjk (vF S') (nv α 4 - 579).toNat 4 = 2 := by rw [mjk_v (by omega) (by omega), wA]; (repeat' split) <;> first | (exfalso; omega) | rfl | (rw [i32_of (by omega) (by omega)] <;> omega) | omega
        omega
    exact hd_retVR G (by decide +kernel) (as_fl_in (f := [521]) (as_backM H1 (by decide +kernel) hxa hf) (fun g hg0 => by
      rcases List.mem_singleton.mp hg0 with rfl
      rw [wd_fl2, if_neg (by decide)]; exact hg)) (by decide +kernel) (by decide) trivial
set_option maxHeartbeats 16000000 in
set_option maxRecDepth 8000 in
theorem kh_doSpell_okP : ct_okPR wd_fl2 kh_doSpell P_crew2 R_any := ct_handPR (P := P_crew2) (R := R_any) (ff := wd_ff2) (y := kh_doSpell_y) (Cs := [kh_hasNothing, kh_996, kh_finish, kh_990, kh_stTake]) wd_fl2_ok rfl (List.forall_mem_cons.mpr ⟨kh_hasNothing_ok, (List.forall_mem_cons.mpr ⟨kh_996_ok, (List.forall_mem_cons.mpr ⟨kh_finish_ok, (List.forall_mem_cons.mpr ⟨kh_990_ok, (List.forall_mem_cons.mpr ⟨kh_stTake_ok, (List.forall_mem_nil _)⟩)⟩)⟩)⟩)⟩) (by decide +kernel) (fun l D tc ad kd N sm xs S p e s m args below meth c sz lv G H0 hpre => by
  have hx : xs.length = 3 := by rw [H0.2.1.1]; rfl
  have x2 := (en_nv (i := 2) H0.2.1 rfl).2
  change 0 ≤ nv xs 2 ∧ nv xs 2 ≤ 3 at x2
  have hP : ∀ (k : Nat), kh_doSpell_I l D tc ad kd N sm xs S p e s m args below meth c sz k := by
    intro k
    induction k with
    | zero => exact ⟨fun _ _ _ _ _ _ h => absurd h (Nat.not_lt_zero _), trivial⟩
    | succ k ih => exact ⟨kh_doSpell_h128 G H0 hpre ih, trivial⟩
  obtain ⟨α1, hle, Hr⟩ := as_recM (pl := []) [((2, 2), (4, 4, 0)), ((3, 3), (0, 16, 1)), ((4, 4), (0, 11, 1)), ((5, 5), (0, 11, 1)), ((6, 6), (0, 11, 1)), ((10, 60), (0, 0, 0)), ((10, 60), (1, 1, 0)), ((10, 60), (2, 2, 0)), ((10, 60), (3, 3, 0)), ((62, 78), (3, 3, 0)), ((62, 78), (6, 6, 0)), ((167, 176), (2, 2, 0)), ((167, 176), (12, 12, 0)), ((179, 208), (3, 13, 1)), ((574, 577), (4, 4, 0)), ((781, 784), (0, 0, 0)), ((781, 784), (4, 4, 0))] (by decide +kernel) H0
  have hf := H0.2.2.2.2.2.2.2.2.2.2.1
  have hl1 : α1.length = 3 := by rw [Hr.2.1.1]; rfl
  have hl0 : xs.length = 3 := by rw [H0.2.1.1]; rfl
  have hxa : al_le xs α1 := H0.1.trans hle
  obtain ⟨g1, -, g3, g4, -⟩ := as_fx Hr
  have g0 : (572 ≤ nv α1 0 ∧ nv α1 0 ≤ 572) ∧ (1 ≤ nv α1 1 ∧ nv α1 1 ≤ 1) ∧ (0 ≤ nv α1 2 ∧ nv α1 2 ≤ 3) ∧ True := by
    refine ⟨by have h := (en_nv (i := 0) Hr.2.1 rfl).2; exact h, by have h := (en_nv (i := 1) Hr.2.1 rfl).2; exact h, by have h := (en_nv (i := 2) Hr.2.1 rfl).2; exact h, trivial⟩
  have r0 : nv α1 0 = nv xs 0 := nv_le hle (by omega)
  have r1 : nv α1 1 = nv xs 1 := nv_le hle (by omega)
  have r2 : nv α1 2 = nv xs 2 := nv_le hle (by omega)
  refine hd_segMR G (na := 3) (fuel := 600) (first := true) (Bs := [kh_doSpell_b0_0, kh_doSpell_b0_1, kh_doSpell_b0_2, kh_doSpell_b0_3, kh_doSpell_b0_4, kh_doSpell_b0_5, kh_doSpell_b0_6, kh_doSpell_b0_7, kh_doSpell_b0_8, kh_doSpell_b0_9, kh_doSpell_b0_10, kh_doSpell_b0_11, kh_doSpell_b0_12, kh_doSpell_b0_13, kh_doSpell_b0_14, kh_doSpell_b0_15, kh_doSpell_b0_16, kh_doSpell_b0_17, kh_doSpell_b0_18]) (by decide +kernel) hl1 Hr ?_
  intro q hq β lv' st' S' H1
  simp only [List.mem_cons, List.not_mem_nil, or_false] at hq
  rcases hq with rfl | rfl | rfl | rfl | rfl | rfl | rfl | rfl | rfl | rfl | rfl | rfl | rfl | rfl | rfl | rfl | rfl | rfl | rfl
  · obtain ⟨f1, f2, f3, f4, f5⟩ := as_fx H1
    simp only [kh_doSpell_b0_0, Nat.reduceEqDiff, if_false, fx_env, fx_c, fx_ne, fx_hf, wl_S, Nat.zero_add, Nat.reduceAdd, Nat.reduceDiv, Nat.reduceMod, List.getElem?_cons_zero, List.getElem?_cons_succ, if_true, and_true, true_and] at f1 f2 f3 f4 f5
    have fe0 : nv β 0 = 572 := by omega
    have fe1 : nv β 1 = 1 := by omega
    have fe3 : nv β 3 = 573 := by omega
    have fe5 : nv β 5 = 3 := by omega
    have fe7 : nv β 7 = (-1) := by omega
    have fe8 : nv β 8 = 578 := by omega
    have fe9 : nv β 9 = 3 := by omega
    have fe11 : nv β 11 = 1 := by omega
    have fe12 : nv β 12 = 4 := by omega
    have fe14 : nv β 14 = 1 := by omega
    try simp only [fe0, fe1, fe3, fe5, fe7, fe8, fe9, fe11, fe12, fe14, Int.reduceToNat] at f2 f3 f4 f5
    have s0 : nv β 0 = nv α1 0 := nv_le H1.1 (by omega)
    have s1 : nv β 1 = nv α1 1 := nv_le H1.1 (by omega)
    have s2 : nv β 2 = nv α1 2 := nv_le H1.1 (by omega)
    obtain ⟨c0, c1, c2⟩ := f2
    obtain ⟨α', Ha, hm⟩ := hd_gpM (q := kh_doSpell_a128) (n := 0) (by decide +kernel) hx H1 (by decide +kernel) hxa hf
    have hfr := H1.2.2.2.2.2.2.2.2.2.2.1
    have m0 : nv α' 0 = nv β 0 := hm 0 0 rfl
    have m1 : nv α' 1 = nv β 1 := hm 1 1 rfl
    have m2 : nv α' 2 = nv β 2 := hm 2 2 rfl
    have m3 : nv α' 3 = nv β 4 := hm 3 4 rfl
    have m4 : nv α' 4 = nv β 10 := hm 4 10 rfl
    have m5 : nv α' 5 = nv β 11 := hm 5 11 rfl
    have rt10 := hf_rt (c := 578) (lo := 0) (hi := 199) (base := 579) (rv := 8) (iv := 6) (n := 10) (by decide +kernel) (by decide +kernel) H1 (by decide +kernel) (by omega) (by omega) (by omega)
    have rt4 := hf_rt (c := 573) (lo := 0) (hi := 3) (base := 574) (rv := 3) (iv := 2) (n := 4) (by decide +kernel) (by decide +kernel) H1 (by decide +kernel) (by omega) (by omega) (by omega)
    have o0 := old_i c0 (en_nv (i := 13) H1.2.1 rfl).1
    have o2 := old_i c2 (en_nv (i := 6) H1.2.1 rfl).1
    have e3 := fr_cs hfr 574 577 (3, 3, 0) (by decide +kernel) (k := 574 + (nv xs 2).toNat) (j := 3) (by omega) (by omega) (pg_mk (by omega) (by omega) (by omega))
    have e0 := fr_pl hfr 572 0 (by decide +kernel)
    refine (hP _).1 _ _ _ _ Ha ?_ (Nat.lt_succ_self _)
    · rw [m3, m4, e3, e0]
      refine ⟨by omega, ?_, hpre⟩
      rw [show 574 + (nv xs 2).toNat = (nv β 4).toNat by omega, o2]
      omega
  · obtain ⟨f1, f2, f3, f4, f5⟩ := as_fx H1
    simp only [kh_doSpell_b0_1, Nat.reduceEqDiff, if_false, fx_env, fx_c, fx_ne, fx_hf, wl_S, Nat.zero_add, Nat.reduceAdd, Nat.reduceDiv, Nat.reduceMod, List.getElem?_cons_zero, List.getElem?_cons_succ, if_true, and_true, true_and] at f1 f2 f3 f4 f5
    have fe0 : nv β 0 = 572 := by omega
    have fe1 : nv β 1 = 1 := by omega
    have fe3 : nv β 3 = 573 := by omega
    have fe5 : nv β 5 = 3 := by omega
    have fe7 : nv β 7 = (-1) := by omega
    have fe8 : nv β 8 = 578 := by omega
    have fe9 : nv β 9 = 3 := by omega
    have fe11 : nv β 11 = 0 := by omega
    have fe12 : nv β 12 = 4 := by omega
    have fe14 : nv β 14 = 0 := by omega
    have fe15 : nv β 15 = 4 := by omega
    have fe16 : nv β 16 = 4 := by omega
    have fe17 : nv β 17 = 1 := by omega
    have fe19 : nv β 19 = 4 := by omega
    have fe21 : nv β 21 = 0 := by omega
    try simp only [fe0, fe1, fe3, fe5, fe7, fe8, fe9, fe11, fe12, fe14, fe15, fe16, fe17, fe19, fe21, Int.reduceToNat] at f2 f3 f4 f5
    have s0 : nv β 0 = nv α1 0 := nv_le H1.1 (by omega)
    have s1 : nv β 1 = nv α1 1 := nv_le H1.1 (by omega)
    have s2 : nv β 2 = nv α1 2 := nv_le H1.1 (by omega)
    obtain ⟨c0, c1, c2, c3⟩ := f2
    exact hd_retVR G (by decide +kernel) (as_backM H1 (by decide +kernel) hxa hf) (by decide +kernel) (by decide) trivial
  · obtain ⟨f1, f2, f3, f4, f5⟩ := as_fx H1
    simp only [kh_doSpell_b0_2, Nat.reduceEqDiff, if_false, fx_env, fx_c, fx_ne, fx_hf, wl_S, Nat.zero_add, Nat.reduceAdd, Nat.reduceDiv, Nat.reduceMod, List.getElem?_cons_zero, List.getElem?_cons_succ, if_true, and_true, true_and] at f1 f2 f3 f4 f5
    have fe0 : nv β 0 = 572 := by omega
    have fe1 : nv β 1 = 1 := by omega
    have fe3 : nv β 3 = 573 := by omega
    have fe5 : nv β 5 = 3 := by omega
    have fe7 : nv β 7 = (-1) := by omega
    have fe8 : nv β 8 = 578 := by omega
    have fe9 : nv β 9 = 3 := by omega
    have fe11 : nv β 11 = 0 := by omega
    have fe12 : nv β 12 = 4 := by omega
    have fe14 : nv β 14 = 0 := by omega
    have fe15 : nv β 15 = 4 := by omega
    have fe16 : nv β 16 = 4 := by omega
    have fe17 : nv β 17 = 1 := by omega
    have fe19 : nv β 19 = 4 := by omega
    have fe21 : nv β 21 = 0 := by omega
    try simp only [fe0, fe1, fe3, fe5, fe7, fe8, fe9, fe11, fe12, fe14, fe15, fe16, fe17, fe19, fe21, Int.reduceToNat] at f2 f3 f4 f5
    have s0 : nv β 0 = nv α1 0 := nv_le H1.1 (by omega)
    have s1 : nv β 1 = nv α1 1 := nv_le H1.1 (by omega)
    have s2 : nv β 2 = nv α1 2 := nv_le H1.1 (by omega)
    obtain ⟨c0, c1, c2, c3⟩ := f2
    obtain ⟨α', Ha, hm⟩ := hd_gpM (q := kh_doSpell_a128) (n := 0) (by decide +kernel) hx H1 (by decide +kernel) hxa hf
    have hfr := H1.2.2.2.2.2.2.2.2.2.2.1
    have m0 : nv α' 0 = nv β 0 := hm 0 0 rfl
    have m1 : nv α' 1 = nv β 1 := hm 1 1 rfl
    have m2 : nv α' 2 = nv β 2 := hm 2 2 rfl
    have m3 : nv α' 3 = nv β 4 := hm 3 4 rfl
    have m4 : nv α' 4 = nv β 10 := hm 4 10 rfl
    have m5 : nv α' 5 = nv β 11 := hm 5 11 rfl
    have rt10 := hf_rt (c := 578) (lo := 0) (hi := 199) (base := 579) (rv := 8) (iv := 6) (n := 10) (by decide +kernel) (by decide +kernel) H1 (by decide +kernel) (by omega) (by omega) (by omega)
    have rt4 := hf_rt (c := 573) (lo := 0) (hi := 3) (base := 574) (rv := 3) (iv := 2) (n := 4) (by decide +kernel) (by decide +kernel) H1 (by decide +kernel) (by omega) (by omega) (by omega)
    have o1 := old_i c1 (en_nv (i := 13) H1.2.1 rfl).1
    have o3 := old_i c3 (en_nv (i := 6) H1.2.1 rfl).1
    have e3 := fr_cs hfr 574 577 (3, 3, 0) (by decide +kernel) (k := 574 + (nv xs 2).toNat) (j := 3) (by omega) (by omega) (pg_mk (by omega) (by omega) (by omega))
    have e0 := fr_pl hfr 572 0 (by decide +kernel)
    refine (hP _).1 _ _ _ _ Ha ?_ (Nat.lt_succ_self _)
    · rw [m3, m4, e3, e0]
      refine ⟨by omega, ?_, hpre⟩
      rw [show 574 + (nv xs 2).toNat = (nv β 4).toNat by omega, o3]
      omega
  · obtain ⟨f1, f2, f3, f4, f5⟩ := as_fx H1
    simp only [kh_doSpell_b0_3, Nat.reduceEqDiff, if_false, fx_env, fx_c, fx_ne, fx_hf, wl_S, Nat.zero_add, Nat.reduceAdd, Nat.reduceDiv, Nat.reduceMod, List.getElem?_cons_zero, List.getElem?_cons_succ, if_true, and_true, true_and] at f1 f2 f3 f4 f5
    have fe0 : nv β 0 = 572 := by omega
    have fe1 : nv β 1 = 1 := by omega
    have fe3 : nv β 3 = 573 := by omega
    have fe5 : nv β 5 = 3 := by omega
    have fe7 : nv β 7 = (-1) := by omega
    have fe8 : nv β 8 = 578 := by omega
    have fe9 : nv β 9 = 3 := by omega
    have fe11 : nv β 11 = 0 := by omega
    have fe12 : nv β 12 = 4 := by omega
    have fe13 : nv β 13 = 0 := by omega
    have fe14 : nv β 14 = 0 := by omega
    have fe15 : nv β 15 = 4 := by omega
    have fe16 : nv β 16 = 0 := by omega
    have fe17 : nv β 17 = 4 := by omega
    have fe18 : nv β 18 = 1 := by omega
    have fe19 : nv β 19 = 1 := by omega
    have fe20 : nv β 20 = 4 := by omega
    have fe22 : nv β 22 = 0 := by omega
    try simp only [fe0, fe1, fe3, fe5, fe7, fe8, fe9, fe11, fe12, fe13, fe14, fe15, fe16, fe17, fe18, fe19, fe20, fe22, Int.reduceToNat] at f2 f3 f4 f5
    have s0 : nv β 0 = nv α1 0 := nv_le H1.1 (by omega)
    have s1 : nv β 1 = nv α1 1 := nv_le H1.1 (by omega)
    have s2 : nv β 2 = nv α1 2 := nv_le H1.1 (by omega)
    obtain ⟨c0, c1, c2, c3, c4⟩ := f2
    exact hd_retVR G (by decide +kernel) (as_backM H1 (by decide +kernel) hxa hf) (by decide +kernel) (by decide) trivial
  · obtain ⟨f1, f2, f3, f4, f5⟩ := as_fx H1
    simp only [kh_doSpell_b0_4, Nat.reduceEqDiff, if_false, fx_env, fx_c, fx_ne, fx_hf, wl_S, Nat.zero_add, Nat.reduceAdd, Nat.reduceDiv, Nat.reduceMod, List.getElem?_cons_zero, List.getElem?_cons_succ, if_true, and_true, true_and] at f1 f2 f3 f4 f5
    have fe0 : nv β 0 = 572 := by omega
    have fe1 : nv β 1 = 1 := by omega
    have fe3 : nv β 3 = 573 := by omega
    have fe5 : nv β 5 = 3 := by omega
    have fe7 : nv β 7 = (-1) := by omega
    have fe8 : nv β 8 = 578 := by omega
    have fe9 : nv β 9 = 3 := by omega
    have fe11 : nv β 11 = 0 := by omega
    have fe12 : nv β 12 = 4 := by omega
    have fe13 : nv β 13 = 0 := by omega
    have fe14 : nv β 14 = 0 := by omega
    have fe15 : nv β 15 = 4 := by omega
    have fe16 : nv β 16 = 0 := by omega
    have fe17 : nv β 17 = 4 := by omega
    have fe18 : nv β 18 = 1 := by omega
    have fe19 : nv β 19 = 1 := by omega
    have fe20 : nv β 20 = 4 := by omega
    have fe22 : nv β 22 = 0 := by omega
    have fe24 : nv β 24 = 1 := by omega
    try simp only [fe0, fe1, fe3, fe5, fe7, fe8, fe9, fe11, fe12, fe13, fe14, fe15, fe16, fe17, fe18, fe19, fe20, fe22, fe24, Int.reduceToNat] at f2 f3 f4 f5
    have s0 : nv β 0 = nv α1 0 := nv_le H1.1 (by omega)
    have s1 : nv β 1 = nv α1 1 := nv_le H1.1 (by omega)
    have s2 : nv β 2 = nv α1 2 := nv_le H1.1 (by omega)
    obtain ⟨c0, c1, c2, c3, c4⟩ := f2
    obtain ⟨α', Ha, hm⟩ := hd_gpM (q := kh_doSpell_a128) (n := 0) (by decide +kernel) hx H1 (by decide +kernel) hxa hf
    have hfr := H1.2.2.2.2.2.2.2.2.2.2.1
    have m0 : nv α' 0 = nv β 0 := hm 0 0 rfl
    have m1 : nv α' 1 = nv β 1 := hm 1 1 rfl
    have m2 : nv α' 2 = nv β 2 := hm 2 2 rfl
    have m3 : nv α' 3 = nv β 4 := hm 3 4 rfl
    have m4 : nv α' 4 = nv β 10 := hm 4 10 rfl
    have m5 : nv α' 5 = nv β 11 := hm 5 11 rfl
    have rt10 := hf_rt (c := 578) (lo := 0) (hi := 199) (base := 579) (rv := 8) (iv := 6) (n := 10) (by decide +kernel) (by decide +kernel) H1 (by decide +kernel) (by omega) (by omega) (by omega)
    have rt4 := hf_rt (c := 573) (lo := 0) (hi := 3) (base := 574) (rv := 3) (iv := 2) (n := 4) (by decide +kernel) (by decide +kernel) H1 (by decide +kernel) (by omega) (by omega) (by omega)
    have o2 := old_i c2 (by have h := (en_nv (i := 13) H1.2.1 rfl).1; rw [fe13] at h; exact h)
    have o4 := old_i c4 (en_nv (i := 6) H1.2.1 rfl).1
    have e3 := fr_cs hfr 574 577 (3, 3, 0) (by decide +kernel) (k := 574 + (nv xs 2).toNat) (j := 3) (by omega) (by omega) (pg_mk (by omega) (by omega) (by omega))
    have e0 := fr_pl hfr 572 0 (by decide +kernel)
    refine (hP _).1 _ _ _ _ Ha ?_ (Nat.lt_succ_self _)
    · rw [m3, m4, e3, e0]
      refine ⟨by omega, ?_, hpre⟩
      rw [show 574 + (nv xs 2).toNat = (nv β 4).toNat by omega, o4]
      omega
  · obtain ⟨f1, f2, f3, f4, f5⟩ := as_fx H1
    simp only [kh_doSpell_b0_5, Nat.reduceEqDiff, if_false, fx_env, fx_c, fx_ne, fx_hf, wl_S, Nat.zero_add, Nat.reduceAdd, Nat.reduceDiv, Nat.reduceMod, List.getElem?_cons_zero, List.getElem?_cons_succ, if_true, and_true, true_and] at f1 f2 f3 f4 f5
    have fe0 : nv β 0 = 572 := by omega
    have fe1 : nv β 1 = 1 := by omega
    have fe3 : nv β 3 = 573 := by omega
    have fe5 : nv β 5 = 3 := by omega
    have fe7 : nv β 7 = (-1) := by omega
    have fe8 : nv β 8 = 578 := by omega
    have fe9 : nv β 9 = 3 := by omega
    have fe11 : nv β 11 = 0 := by omega
    have fe12 : nv β 12 = 4 := by omega
    have fe13 : nv β 13 = 0 := by omega
    have fe14 : nv β 14 = 0 := by omega
    have fe15 : nv β 15 = 4 := by omega
    have fe16 : nv β 16 = 2 := by omega
    have fe17 : nv β 17 = 779 := by omega
    have fe18 : nv β 18 = 1 := by omega
    have fe20 : nv β 20 = 0 := by omega
    have fe21 : nv β 21 = 4 := by omega
    have fe22 : nv β 22 = 1 := by omega
    have fe23 : nv β 23 = 1 := by omega
    have fe24 : nv β 24 = 4 := by omega
    have fe26 : nv β 26 = 0 := by omega
    try simp only [fe0, fe1, fe3, fe5, fe7, fe8, fe9, fe11, fe12, fe13, fe14, fe15, fe16, fe17, fe18, fe20, fe21, fe22, fe23, fe24, fe26, Int.reduceToNat] at f2 f3 f4 f5
    have s0 : nv β 0 = nv α1 0 := nv_le H1.1 (by omega)
    have s1 : nv β 1 = nv α1 1 := nv_le H1.1 (by omega)
    have s2 : nv β 2 = nv α1 2 := nv_le H1.1 (by omega)
    obtain ⟨c0, c1, c2, c3⟩ := f2
    exact hd_retVR G (by decide +kernel) (as_backM H1 (by decide +kernel) hxa hf) (by decide +kernel) (by decide) trivial
  · obtain ⟨f1, f2, f3, f4, f5⟩ := as_fx H1
    simp only [kh_doSpell_b0_6, Nat.reduceEqDiff, if_false, fx_env, fx_c, fx_ne, fx_hf, wl_S, Nat.zero_add, Nat.reduceAdd, Nat.reduceDiv, Nat.reduceMod, List.getElem?_cons_zero, List.getElem?_cons_succ, if_true, and_true, true_and] at f1 f2 f3 f4 f5
    have fe0 : nv β 0 = 572 := by omega
    have fe1 : nv β 1 = 1 := by omega
    have fe3 : nv β 3 = 573 := by omega
    have fe5 : nv β 5 = 3 := by omega
    have fe7 : nv β 7 = (-1) := by omega
    have fe8 : nv β 8 = 578 := by omega
    have fe9 : nv β 9 = 3 := by omega
    have fe11 : nv β 11 = 0 := by omega
    have fe12 : nv β 12 = 4 := by omega
    have fe13 : nv β 13 = 0 := by omega
    have fe14 : nv β 14 = 0 := by omega
    have fe15 : nv β 15 = 4 := by omega
    have fe16 : nv β 16 = 2 := by omega
    have fe17 : nv β 17 = 779 := by omega
    have fe18 : nv β 18 = 1 := by omega
    have fe20 : nv β 20 = 0 := by omega
    have fe21 : nv β 21 = 4 := by omega
    have fe22 : nv β 22 = 1 := by omega
    have fe23 : nv β 23 = 1 := by omega
    have fe24 : nv β 24 = 4 := by omega
    have fe26 : nv β 26 = 0 := by omega
    have fe28 : nv β 28 = 1 := by omega
    try simp only [fe0, fe1, fe3, fe5, fe7, fe8, fe9, fe11, fe12, fe13, fe14, fe15, fe16, fe17, fe18, fe20, fe21, fe22, fe23, fe24, fe26, fe28, Int.reduceToNat] at f2 f3 f4 f5
    have s0 : nv β 0 = nv α1 0 := nv_le H1.1 (by omega)
    have s1 : nv β 1 = nv α1 1 := nv_le H1.1 (by omega)
    have s2 : nv β 2 = nv α1 2 := nv_le H1.1 (by omega)
    obtain ⟨c0, c1, c2, c3⟩ := f2
    obtain ⟨α', Ha, hm⟩ := hd_gpM (q := kh_doSpell_a128) (n := 0) (by decide +kernel) hx H1 (by decide +kernel) hxa hf
    have hfr := H1.2.2.2.2.2.2.2.2.2.2.1
    have m0 : nv α' 0 = nv β 0 := hm 0 0 rfl
    have m1 : nv α' 1 = nv β 1 := hm 1 1 rfl
    have m2 : nv α' 2 = nv β 2 := hm 2 2 rfl
    have m3 : nv α' 3 = nv β 4 := hm 3 4 rfl
    have m4 : nv α' 4 = nv β 10 := hm 4 10 rfl
    have m5 : nv α' 5 = nv β 11 := hm 5 11 rfl
    have rt10 := hf_rt (c := 578) (lo := 0) (hi := 199) (base := 579) (rv := 8) (iv := 6) (n := 10) (by decide +kernel) (by decide +kernel) H1 (by decide +kernel) (by omega) (by omega) (by omega)
    have rt4 := hf_rt (c := 573) (lo := 0) (hi := 3) (base := 574) (rv := 3) (iv := 2) (n := 4) (by decide +kernel) (by decide +kernel) H1 (by decide +kernel) (by omega) (by omega) (by omega)
    have o0 := old_i c0 (en_nv (i := 19) H1.2.1 rfl).1
    have o1 := old_i c1 (by have h := (en_nv (i := 13) H1.2.1 rfl).1; rw [fe13] at h; exact h)
    have o3 := old_i c3 (en_nv (i := 6) H1.2.1 rfl).1
    have e3 := fr_cs hfr 574 577 (3, 3, 0) (by decide +kernel) (k := 574 + (nv xs 2).toNat) (j := 3) (by omega) (by omega) (pg_mk (by omega) (by omega) (by omega))
    have e0 := fr_pl hfr 572 0 (by decide +kernel)
    refine (hP _).1 _ _ _ _ Ha ?_ (Nat.lt_succ_self _)
    · rw [m3, m4, e3, e0]
      refine ⟨by omega, ?_, hpre⟩
      rw [show 574 + (nv xs 2).toNat = (nv β 4).toNat by omega, o3]
      omega
  · obtain ⟨f1, f2, f3, f4, f5⟩ := as_fx H1
    simp only [kh_doSpell_b0_7, Nat.reduceEqDiff, if_false, fx_env, fx_c, fx_ne, fx_hf, wl_S, Nat.zero_add, Nat.reduceAdd, Nat.reduceDiv, Nat.reduceMod, List.getElem?_cons_zero, List.getElem?_cons_succ, if_true, and_true, true_and] at f1 f2 f3 f4 f5
    have fe0 : nv β 0 = 572 := by omega
    have fe1 : nv β 1 = 1 := by omega
    have fe3 : nv β 3 = 573 := by omega
    have fe5 : nv β 5 = 3 := by omega
    have fe7 : nv β 7 = (-1) := by omega
    have fe8 : nv β 8 = 578 := by omega
    have fe9 : nv β 9 = 3 := by omega
    have fe11 : nv β 11 = 0 := by omega
    have fe12 : nv β 12 = 4 := by omega
    have fe13 : nv β 13 = 0 := by omega
    have fe14 : nv β 14 = 0 := by omega
    have fe15 : nv β 15 = 4 := by omega
    have fe16 : nv β 16 = 2 := by omega
    have fe17 : nv β 17 = 779 := by omega
    have fe18 : nv β 18 = 1 := by omega
    have fe20 : nv β 20 = 2 := by omega
    have fe21 : nv β 21 = 4 := by omega
    have fe22 : nv β 22 = 1 := by omega
    have fe23 : nv β 23 = 1 := by omega
    have fe24 : nv β 24 = 4 := by omega
    have fe26 : nv β 26 = 0 := by omega
    try simp only [fe0, fe1, fe3, fe5, fe7, fe8, fe9, fe11, fe12, fe13, fe14, fe15, fe16, fe17, fe18, fe20, fe21, fe22, fe23, fe24, fe26, Int.reduceToNat] at f2 f3 f4 f5
    have s0 : nv β 0 = nv α1 0 := nv_le H1.1 (by omega)
    have s1 : nv β 1 = nv α1 1 := nv_le H1.1 (by omega)
    have s2 : nv β 2 = nv α1 2 := nv_le H1.1 (by omega)
    obtain ⟨c0, c1, c2, c3⟩ := f2
    exact hd_retVR G (by decide +kernel) (as_backM H1 (by decide +kernel) hxa hf) (by decide +kernel) (by decide) trivial
  · obtain ⟨f1, f2, f3, f4, f5⟩ := as_fx H1
    simp only [kh_doSpell_b0_8, Nat.reduceEqDiff, if_false, fx_env, fx_c, fx_ne, fx_hf, wl_S, Nat.zero_add, Nat.reduceAdd, Nat.reduceDiv, Nat.reduceMod, List.getElem?_cons_zero, List.getElem?_cons_succ, if_true, and_true, true_and] at f1 f2 f3 f4 f5
    have fe0 : nv β 0 = 572 := by omega
    have fe1 : nv β 1 = 1 := by omega
    have fe3 : nv β 3 = 573 := by omega
    have fe5 : nv β 5 = 3 := by omega
    have fe7 : nv β 7 = (-1) := by omega
    have fe8 : nv β 8 = 578 := by omega
    have fe9 : nv β 9 = 3 := by omega
    have fe11 : nv β 11 = 0 := by omega
    have fe12 : nv β 12 = 4 := by omega
    have fe13 : nv β 13 = 0 := by omega
    have fe14 : nv β 14 = 0 := by omega
    have fe15 : nv β 15 = 4 := by omega
    have fe16 : nv β 16 = 2 := by omega
    have fe17 : nv β 17 = 779 := by omega
    have fe18 : nv β 18 = 1 := by omega
    have fe20 : nv β 20 = 2 := by omega
    have fe21 : nv β 21 = 4 := by omega
    have fe22 : nv β 22 = 1 := by omega
    have fe23 : nv β 23 = 1 := by omega
    have fe24 : nv β 24 = 4 := by omega
    have fe26 : nv β 26 = 0 := by omega
    have fe28 : nv β 28 = 1 := by omega
    try simp only [fe0, fe1, fe3, fe5, fe7, fe8, fe9, fe11, fe12, fe13, fe14, fe15, fe16, fe17, fe18, fe20, fe21, fe22, fe23, fe24, fe26, fe28, Int.reduceToNat] at f2 f3 f4 f5
    have s0 : nv β 0 = nv α1 0 := nv_le H1.1 (by omega)
    have s1 : nv β 1 = nv α1 1 := nv_le H1.1 (by omega)
    have s2 : nv β 2 = nv α1 2 := nv_le H1.1 (by omega)
    obtain ⟨c0, c1, c2, c3⟩ := f2
    obtain ⟨α', Ha, hm⟩ := hd_gpM (q := kh_doSpell_a128) (n := 0) (by decide +kernel) hx H1 (by decide +kernel) hxa hf
    have hfr := H1.2.2.2.2.2.2.2.2.2.2.1
    have m0 : nv α' 0 = nv β 0 := hm 0 0 rfl
    have m1 : nv α' 1 = nv β 1 := hm 1 1 rfl
    have m2 : nv α' 2 = nv β 2 := hm 2 2 rfl
    have m3 : nv α' 3 = nv β 4 := hm 3 4 rfl
    have m4 : nv α' 4 = nv β 10 := hm 4 10 rfl
    have m5 : nv α' 5 = nv β 11 := hm 5 11 rfl
    have rt10 := hf_rt (c := 578) (lo := 0) (hi := 199) (base := 579) (rv := 8) (iv := 6) (n := 10) (by decide +kernel) (by decide +kernel) H1 (by decide +kernel) (by omega) (by omega) (by omega)
    have rt4 := hf_rt (c := 573) (lo := 0) (hi := 3) (base := 574) (rv := 3) (iv := 2) (n := 4) (by decide +kernel) (by decide +kernel) H1 (by decide +kernel) (by omega) (by omega) (by omega)
    have o0 := old_i c0 (en_nv (i := 19) H1.2.1 rfl).1
    have o1 := old_i c1 (by have h := (en_nv (i := 13) H1.2.1 rfl).1; rw [fe13] at h; exact h)
    have o3 := old_i c3 (en_nv (i := 6) H1.2.1 rfl).1
    have e3 := fr_cs hfr 574 577 (3, 3, 0) (by decide +kernel) (k := 574 + (nv xs 2).toNat) (j := 3) (by omega) (by omega) (pg_mk (by omega) (by omega) (by omega))
    have e0 := fr_pl hfr 572 0 (by decide +kernel)
    refine (hP _).1 _ _ _ _ Ha ?_ (Nat.lt_succ_self _)
    · rw [m3, m4, e3, e0]
      refine ⟨by omega, ?_, hpre⟩
      rw [show 574 + (nv xs 2).toNat = (nv β 4).toNat by omega, o3]
      omega
  · obtain ⟨f1, f2, f3, f4, f5⟩ := as_fx H1
    simp only [kh_doSpell_b0_9, Nat.reduceEqDiff, if_false, fx_env, fx_c, fx_ne, fx_hf, wl_S, Nat.zero_add, Nat.reduceAdd, Nat.reduceDiv, Nat.reduceMod, List.getElem?_cons_zero, List.getElem?_cons_succ, if_true, and_true, true_and] at f1 f2 f3 f4 f5
    have fe0 : nv β 0 = 572 := by omega
    have fe1 : nv β 1 = 1 := by omega
    have fe3 : nv β 3 = 573 := by omega
    have fe5 : nv β 5 = 3 := by omega
    have fe7 : nv β 7 = (-1) := by omega
    have fe8 : nv β 8 = 578 := by omega
    have fe9 : nv β 9 = 3 := by omega
    have fe11 : nv β 11 = 0 := by omega
    have fe12 : nv β 12 = 4 := by omega
    have fe13 : nv β 13 = 0 := by omega
    have fe14 : nv β 14 = 0 := by omega
    have fe15 : nv β 15 = 4 := by omega
    have fe16 : nv β 16 = 2 := by omega
    have fe17 : nv β 17 = 779 := by omega
    have fe18 : nv β 18 = 1 := by omega
    have fe20 : nv β 20 = 1 := by omega
    have fe21 : nv β 21 = 4 := by omega
    have fe22 : nv β 22 = 1 := by omega
    have fe23 : nv β 23 = 1 := by omega
    have fe24 : nv β 24 = 4 := by omega
    have fe26 : nv β 26 = 0 := by omega
    try simp only [fe0, fe1, fe3, fe5, fe7, fe8, fe9, fe11, fe12, fe13, fe14, fe15, fe16, fe17, fe18, fe20, fe21, fe22, fe23, fe24, fe26, Int.reduceToNat] at f2 f3 f4 f5
    have s0 : nv β 0 = nv α1 0 := nv_le H1.1 (by omega)
    have s1 : nv β 1 = nv α1 1 := nv_le H1.1 (by omega)
    have s2 : nv β 2 = nv α1 2 := nv_le H1.1 (by omega)
    obtain ⟨c0, c1, c2, c3⟩ := f2
    exact hd_retVR G (by decide +kernel) (as_backM H1 (by decide +kernel) hxa hf) (by decide +kernel) (by decide) trivial
  · obtain ⟨f1, f2, f3, f4, f5⟩ := as_fx H1
    simp only [kh_doSpell_b0_10, Nat.reduceEqDiff, if_false, fx_env, fx_c, fx_ne, fx_hf, wl_S, Nat.zero_add, Nat.reduceAdd, Nat.reduceDiv, Nat.reduceMod, List.getElem?_cons_zero, List.getElem?_cons_succ, if_true, and_true, true_and] at f1 f2 f3 f4 f5
    have fe0 : nv β 0 = 572 := by omega
    have fe1 : nv β 1 = 1 := by omega
    have fe3 : nv β 3 = 573 := by omega
    have fe5 : nv β 5 = 3 := by omega
    have fe7 : nv β 7 = (-1) := by omega
    have fe8 : nv β 8 = 578 := by omega
    have fe9 : nv β 9 = 3 := by omega
    have fe11 : nv β 11 = 0 := by omega
    have fe12 : nv β 12 = 4 := by omega
    have fe13 : nv β 13 = 0 := by omega
    have fe14 : nv β 14 = 0 := by omega
    have fe15 : nv β 15 = 4 := by omega
    have fe16 : nv β 16 = 2 := by omega
    have fe17 : nv β 17 = 779 := by omega
    have fe18 : nv β 18 = 1 := by omega
    have fe20 : nv β 20 = 1 := by omega
    have fe21 : nv β 21 = 4 := by omega
    have fe22 : nv β 22 = 1 := by omega
    have fe23 : nv β 23 = 1 := by omega
    have fe24 : nv β 24 = 4 := by omega
    have fe26 : nv β 26 = 0 := by omega
    have fe28 : nv β 28 = 1 := by omega
    try simp only [fe0, fe1, fe3, fe5, fe7, fe8, fe9, fe11, fe12, fe13, fe14, fe15, fe16, fe17, fe18, fe20, fe21, fe22, fe23, fe24, fe26, fe28, Int.reduceToNat] at f2 f3 f4 f5
    have s0 : nv β 0 = nv α1 0 := nv_le H1.1 (by omega)
    have s1 : nv β 1 = nv α1 1 := nv_le H1.1 (by omega)
    have s2 : nv β 2 = nv α1 2 := nv_le H1.1 (by omega)
    obtain ⟨c0, c1, c2, c3⟩ := f2
    obtain ⟨α', Ha, hm⟩ := hd_gpM (q := kh_doSpell_a128) (n := 0) (by decide +kernel) hx H1 (by decide +kernel) hxa hf
    have hfr := H1.2.2.2.2.2.2.2.2.2.2.1
    have m0 : nv α' 0 = nv β 0 := hm 0 0 rfl
    have m1 : nv α' 1 = nv β 1 := hm 1 1 rfl
    have m2 : nv α' 2 = nv β 2 := hm 2 2 rfl
    have m3 : nv α' 3 = nv β 4 := hm 3 4 rfl
    have m4 : nv α' 4 = nv β 10 := hm 4 10 rfl
    have m5 : nv α' 5 = nv β 11 := hm 5 11 rfl
    have rt10 := hf_rt (c := 578) (lo := 0) (hi := 199) (base := 579) (rv := 8) (iv := 6) (n := 10) (by decide +kernel) (by decide +kernel) H1 (by decide +kernel) (by omega) (by omega) (by omega)
    have rt4 := hf_rt (c := 573) (lo := 0) (hi := 3) (base := 574) (rv := 3) (iv := 2) (n := 4) (by decide +kernel) (by decide +kernel) H1 (by decide +kernel) (by omega) (by omega) (by omega)
    have o0 := old_i c0 (en_nv (i := 19) H1.2.1 rfl).1
    have o1 := old_i c1 (by have h := (en_nv (i := 13) H1.2.1 rfl).1; rw [fe13] at h; exact h)
    have o3 := old_i c3 (en_nv (i := 6) H1.2.1 rfl).1
    have e3 := fr_cs hfr 574 577 (3, 3, 0) (by decide +kernel) (k := 574 + (nv xs 2).toNat) (j := 3) (by omega) (by omega) (pg_mk (by omega) (by omega) (by omega))
    have e0 := fr_pl hfr 572 0 (by decide +kernel)
    refine (hP _).1 _ _ _ _ Ha ?_ (Nat.lt_succ_self _)
    · rw [m3, m4, e3, e0]
      refine ⟨by omega, ?_, hpre⟩
      rw [show 574 + (nv xs 2).toNat = (nv β 4).toNat by omega, o3]
      omega
  · obtain ⟨f1, f2, f3, f4, f5⟩ := as_fx H1
    simp only [kh_doSpell_b0_11, Nat.reduceEqDiff, if_false, fx_env, fx_c, fx_ne, fx_hf, wl_S, Nat.zero_add, Nat.reduceAdd, Nat.reduceDiv, Nat.reduceMod, List.getElem?_cons_zero, List.getElem?_cons_succ, if_true, and_true, true_and] at f1 f2 f3 f4 f5
    have fe0 : nv β 0 = 572 := by omega
    have fe1 : nv β 1 = 1 := by omega
    have fe3 : nv β 3 = 573 := by omega
    have fe5 : nv β 5 = 3 := by omega
    have fe7 : nv β 7 = (-1) := by omega
    have fe8 : nv β 8 = 578 := by omega
    have fe9 : nv β 9 = 3 := by omega
    have fe11 : nv β 11 = 0 := by omega
    have fe12 : nv β 12 = 4 := by omega
    have fe13 : nv β 13 = 0 := by omega
    have fe14 : nv β 14 = 0 := by omega
    have fe15 : nv β 15 = 4 := by omega
    have fe16 : nv β 16 = 1 := by omega
    have fe17 : nv β 17 = 779 := by omega
    have fe18 : nv β 18 = 1 := by omega
    have fe20 : nv β 20 = 0 := by omega
    have fe21 : nv β 21 = 4 := by omega
    have fe22 : nv β 22 = 1 := by omega
    have fe23 : nv β 23 = 1 := by omega
    have fe24 : nv β 24 = 4 := by omega
    have fe26 : nv β 26 = 0 := by omega
    try simp only [fe0, fe1, fe3, fe5, fe7, fe8, fe9, fe11, fe12, fe13, fe14, fe15, fe16, fe17, fe18, fe20, fe21, fe22, fe23, fe24, fe26, Int.reduceToNat] at f2 f3 f4 f5
    have s0 : nv β 0 = nv α1 0 := nv_le H1.1 (by omega)
    have s1 : nv β 1 = nv α1 1 := nv_le H1.1 (by omega)
    have s2 : nv β 2 = nv α1 2 := nv_le H1.1 (by omega)
    obtain ⟨c0, c1, c2, c3⟩ := f2
    exact hd_retVR G (by decide +kernel) (as_backM H1 (by decide +kernel) hxa hf) (by decide +kernel) (by decide) trivial
  · obtain ⟨f1, f2, f3, f4, f5⟩ := as_fx H1
    simp only [kh_doSpell_b0_12, Nat.reduceEqDiff, if_false, fx_env, fx_c, fx_ne, fx_hf, wl_S, Nat.zero_add, Nat.reduceAdd, Nat.reduceDiv, Nat.reduceMod, List.getElem?_cons_zero, List.getElem?_cons_succ, if_true, and_true, true_and] at f1 f2 f3 f4 f5
    have fe0 : nv β 0 = 572 := by omega
    have fe1 : nv β 1 = 1 := by omega
    have fe3 : nv β 3 = 573 := by omega
    have fe5 : nv β 5 = 3 := by omega
    have fe7 : nv β 7 = (-1) := by omega
    have fe8 : nv β 8 = 578 := by omega
    have fe9 : nv β 9 = 3 := by omega
    have fe11 : nv β 11 = 0 := by omega
    have fe12 : nv β 12 = 4 := by omega
    have fe13 : nv β 13 = 0 := by omega
    have fe14 : nv β 14 = 0 := by omega
    have fe15 : nv β 15 = 4 := by omega
    have fe16 : nv β 16 = 1 := by omega
    have fe17 : nv β 17 = 779 := by omega
    have fe18 : nv β 18 = 1 := by omega
    have fe20 : nv β 20 = 0 := by omega
    have fe21 : nv β 21 = 4 := by omega
    have fe22 : nv β 22 = 1 := by omega
    have fe23 : nv β 23 = 1 := by omega
    have fe24 : nv β 24 = 4 := by omega
    have fe26 : nv β 26 = 0 := by omega
    have fe28 : nv β 28 = 1 := by omega
    try simp only [fe0, fe1, fe3, fe5, fe7, fe8, fe9, fe11, fe12, fe13, fe14, fe15, fe16, fe17, fe18, fe20, fe21, fe22, fe23, fe24, fe26, fe28, Int.reduceToNat] at f2 f3 f4 f5
    have s0 : nv β 0 = nv α1 0 := nv_le H1.1 (by omega)
    have s1 : nv β 1 = nv α1 1 := nv_le H1.1 (by omega)
    have s2 : nv β 2 = nv α1 2 := nv_le H1.1 (by omega)
    obtain ⟨c0, c1, c2, c3⟩ := f2
    obtain ⟨α', Ha, hm⟩ := hd_gpM (q := kh_doSpell_a128) (n := 0) (by decide +kernel) hx H1 (by decide +kernel) hxa hf
    have hfr := H1.2.2.2.2.2.2.2.2.2.2.1
    have m0 : nv α' 0 = nv β 0 := hm 0 0 rfl
    have m1 : nv α' 1 = nv β 1 := hm 1 1 rfl
    have m2 : nv α' 2 = nv β 2 := hm 2 2 rfl
    have m3 : nv α' 3 = nv β 4 := hm 3 4 rfl
    have m4 : nv α' 4 = nv β 10 := hm 4 10 rfl
    have m5 : nv α' 5 = nv β 11 := hm 5 11 rfl
    have rt10 := hf_rt (c := 578) (lo := 0) (hi := 199) (base := 579) (rv := 8) (iv := 6) (n := 10) (by decide +kernel) (by decide +kernel) H1 (by decide +kernel) (by omega) (by omega) (by omega)
    have rt4 := hf_rt (c := 573) (lo := 0) (hi := 3) (base := 574) (rv := 3) (iv := 2) (n := 4) (by decide +kernel) (by decide +kernel) H1 (by decide +kernel) (by omega) (by omega) (by omega)
    have o0 := old_i c0 (en_nv (i := 19) H1.2.1 rfl).1
    have o1 := old_i c1 (by have h := (en_nv (i := 13) H1.2.1 rfl).1; rw [fe13] at h; exact h)
    have o3 := old_i c3 (en_nv (i := 6) H1.2.1 rfl).1
    have e3 := fr_cs hfr 574 577 (3, 3, 0) (by decide +kernel) (k := 574 + (nv xs 2).toNat) (j := 3) (by omega) (by omega) (pg_mk (by omega) (by omega) (by omega))
    have e0 := fr_pl hfr 572 0 (by decide +kernel)
    refine (hP _).1 _ _ _ _ Ha ?_ (Nat.lt_succ_self _)
    · rw [m3, m4, e3, e0]
      refine ⟨by omega, ?_, hpre⟩
      rw [show 574 + (nv xs 2).toNat = (nv β 4).toNat by omega, o3]
      omega
  · obtain ⟨f1, f2, f3, f4, f5⟩ := as_fx H1
    simp only [kh_doSpell_b0_13, Nat.reduceEqDiff, if_false, fx_env, fx_c, fx_ne, fx_hf, wl_S, Nat.zero_add, Nat.reduceAdd, Nat.reduceDiv, Nat.reduceMod, List.getElem?_cons_zero, List.getElem?_cons_succ, if_true, and_true, true_and] at f1 f2 f3 f4 f5
    have fe0 : nv β 0 = 572 := by omega
    have fe1 : nv β 1 = 1 := by omega
    have fe3 : nv β 3 = 573 := by omega
    have fe5 : nv β 5 = 3 := by omega
    have fe7 : nv β 7 = (-1) := by omega
    have fe8 : nv β 8 = 578 := by omega
    have fe9 : nv β 9 = 3 := by omega
    have fe11 : nv β 11 = 0 := by omega
    have fe12 : nv β 12 = 4 := by omega
    have fe13 : nv β 13 = 0 := by omega
    have fe14 : nv β 14 = 0 := by omega
    have fe15 : nv β 15 = 4 := by omega
    have fe16 : nv β 16 = 1 := by omega
    have fe17 : nv β 17 = 779 := by omega
    have fe18 : nv β 18 = 1 := by omega
    have fe20 : nv β 20 = 2 := by omega
    have fe21 : nv β 21 = 4 := by omega
    have fe22 : nv β 22 = 1 := by omega
    have fe23 : nv β 23 = 1 := by omega
    have fe24 : nv β 24 = 4 := by omega
    have fe26 : nv β 26 = 0 := by omega
    try simp only [fe0, fe1, fe3, fe5, fe7, fe8, fe9, fe11, fe12, fe13, fe14, fe15, fe16, fe17, fe18, fe20, fe21, fe22, fe23, fe24, fe26, Int.reduceToNat] at f2 f3 f4 f5
    have s0 : nv β 0 = nv α1 0 := nv_le H1.1 (by omega)
    have s1 : nv β 1 = nv α1 1 := nv_le H1.1 (by omega)
    have s2 : nv β 2 = nv α1 2 := nv_le H1.1 (by omega)
    obtain ⟨c0, c1, c2, c3⟩ := f2
    exact hd_retVR G (by decide +kernel) (as_backM H1 (by decide +kernel) hxa hf) (by decide +kernel) (by decide) trivial
  · obtain ⟨f1, f2, f3, f4, f5⟩ := as_fx H1
    simp only [kh_doSpell_b0_14, Nat.reduceEqDiff, if_false, fx_env, fx_c, fx_ne, fx_hf, wl_S, Nat.zero_add, Nat.reduceAdd, Nat.reduceDiv, Nat.reduceMod, List.getElem?_cons_zero, List.getElem?_cons_succ, if_true, and_true, true_and] at f1 f2 f3 f4 f5
    have fe0 : nv β 0 = 572 := by omega
    have fe1 : nv β 1 = 1 := by omega
    have fe3 : nv β 3 = 573 := by omega
    have fe5 : nv β 5 = 3 := by omega
    have fe7 : nv β 7 = (-1) := by omega
    have fe8 : nv β 8 = 578 := by omega
    have fe9 : nv β 9 = 3 := by omega
    have fe11 : nv β 11 = 0 := by omega
    have fe12 : nv β 12 = 4 := by omega
    have fe13 : nv β 13 = 0 := by omega
    have fe14 : nv β 14 = 0 := by omega
    have fe15 : nv β 15 = 4 := by omega
    have fe16 : nv β 16 = 1 := by omega
    have fe17 : nv β 17 = 779 := by omega
    have fe18 : nv β 18 = 1 := by omega
    have fe20 : nv β 20 = 2 := by omega
    have fe21 : nv β 21 = 4 := by omega
    have fe22 : nv β 22 = 1 := by omega
    have fe23 : nv β 23 = 1 := by omega
    have fe24 : nv β 24 = 4 := by omega
    have fe26 : nv β 26 = 0 := by omega
    have fe28 : nv β 28 = 1 := by omega
    try simp only [fe0, fe1, fe3, fe5, fe7, fe8, fe9, fe11, fe12, fe13, fe14, fe15, fe16, fe17, fe18, fe20, fe21, fe22, fe23, fe24, fe26, fe28, Int.reduceToNat] at f2 f3 f4 f5
    have s0 : nv β 0 = nv α1 0 := nv_le H1.1 (by omega)
    have s1 : nv β 1 = nv α1 1 := nv_le H1.1 (by omega)
    have s2 : nv β 2 = nv α1 2 := nv_le H1.1 (by omega)
    obtain ⟨c0, c1, c2, c3⟩ := f2
    obtain ⟨α', Ha, hm⟩ := hd_gpM (q := kh_doSpell_a128) (n := 0) (by decide +kernel) hx H1 (by decide +kernel) hxa hf
    have hfr := H1.2.2.2.2.2.2.2.2.2.2.1
    have m0 : nv α' 0 = nv β 0 := hm 0 0 rfl
    have m1 : nv α' 1 = nv β 1 := hm 1 1 rfl
    have m2 : nv α' 2 = nv β 2 := hm 2 2 rfl
    have m3 : nv α' 3 = nv β 4 := hm 3 4 rfl
    have m4 : nv α' 4 = nv β 10 := hm 4 10 rfl
    have m5 : nv α' 5 = nv β 11 := hm 5 11 rfl
    have rt10 := hf_rt (c := 578) (lo := 0) (hi := 199) (base := 579) (rv := 8) (iv := 6) (n := 10) (by decide +kernel) (by decide +kernel) H1 (by decide +kernel) (by omega) (by omega) (by omega)
    have rt4 := hf_rt (c := 573) (lo := 0) (hi := 3) (base := 574) (rv := 3) (iv := 2) (n := 4) (by decide +kernel) (by decide +kernel) H1 (by decide +kernel) (by omega) (by omega) (by omega)
    have o0 := old_i c0 (en_nv (i := 19) H1.2.1 rfl).1
    have o1 := old_i c1 (by have h := (en_nv (i := 13) H1.2.1 rfl).1; rw [fe13] at h; exact h)
    have o3 := old_i c3 (en_nv (i := 6) H1.2.1 rfl).1
    have e3 := fr_cs hfr 574 577 (3, 3, 0) (by decide +kernel) (k := 574 + (nv xs 2).toNat) (j := 3) (by omega) (by omega) (pg_mk (by omega) (by omega) (by omega))
    have e0 := fr_pl hfr 572 0 (by decide +kernel)
    refine (hP _).1 _ _ _ _ Ha ?_ (Nat.lt_succ_self _)
    · rw [m3, m4, e3, e0]
      refine ⟨by omega, ?_, hpre⟩
      rw [show 574 + (nv xs 2).toNat = (nv β 4).toNat by omega, o3]
      omega
  · obtain ⟨f1, f2, f3, f4, f5⟩ := as_fx H1
    simp only [kh_doSpell_b0_15, Nat.reduceEqDiff, if_false, fx_env, fx_c, fx_ne, fx_hf, wl_S, Nat.zero_add, Nat.reduceAdd, Nat.reduceDiv, Nat.reduceMod, List.getElem?_cons_zero, List.getElem?_cons_succ, if_true, and_true, true_and] at f1 f2 f3 f4 f5
    have fe0 : nv β 0 = 572 := by omega
    have fe1 : nv β 1 = 1 := by omega
    have fe3 : nv β 3 = 573 := by omega
    have fe5 : nv β 5 = 3 := by omega
    have fe7 : nv β 7 = (-1) := by omega
    have fe8 : nv β 8 = 578 := by omega
    have fe9 : nv β 9 = 3 := by omega
    have fe11 : nv β 11 = 0 := by omega
    have fe12 : nv β 12 = 4 := by omega
    have fe13 : nv β 13 = 0 := by omega
    have fe14 : nv β 14 = 0 := by omega
    have fe15 : nv β 15 = 4 := by omega
    have fe16 : nv β 16 = 1 := by omega
    have fe17 : nv β 17 = 779 := by omega
    have fe18 : nv β 18 = 1 := by omega
    have fe20 : nv β 20 = 1 := by omega
    have fe21 : nv β 21 = 4 := by omega
    have fe22 : nv β 22 = 1 := by omega
    have fe23 : nv β 23 = 1 := by omega
    have fe24 : nv β 24 = 4 := by omega
    have fe26 : nv β 26 = 0 := by omega
    try simp only [fe0, fe1, fe3, fe5, fe7, fe8, fe9, fe11, fe12, fe13, fe14, fe15, fe16, fe17, fe18, fe20, fe21, fe22, fe23, fe24, fe26, Int.reduceToNat] at f2 f3 f4 f5
    have s0 : nv β 0 = nv α1 0 := nv_le H1.1 (by omega)
    have s1 : nv β 1 = nv α1 1 := nv_le H1.1 (by omega)
    have s2 : nv β 2 = nv α1 2 := nv_le H1.1 (by omega)
    obtain ⟨c0, c1, c2, c3⟩ := f2
    exact hd_retVR G (by decide +kernel) (as_backM H1 (by decide +kernel) hxa hf) (by decide +kernel) (by decide) trivial
  · obtain ⟨f1, f2, f3, f4, f5⟩ := as_fx H1
    simp only [kh_doSpell_b0_16, Nat.reduceEqDiff, if_false, fx_env, fx_c, fx_ne, fx_hf, wl_S, Nat.zero_add, Nat.reduceAdd, Nat.reduceDiv, Nat.reduceMod, List.getElem?_cons_zero, List.getElem?_cons_succ, if_true, and_true, true_and] at f1 f2 f3 f4 f5
    have fe0 : nv β 0 = 572 := by omega
    have fe1 : nv β 1 = 1 := by omega
    have fe3 : nv β 3 = 573 := by omega
    have fe5 : nv β 5 = 3 := by omega
    have fe7 : nv β 7 = (-1) := by omega
    have fe8 : nv β 8 = 578 := by omega
    have fe9 : nv β 9 = 3 := by omega
    have fe11 : nv β 11 = 0 := by omega
    have fe12 : nv β 12 = 4 := by omega
    have fe13 : nv β 13 = 0 := by omega
    have fe14 : nv β 14 = 0 := by omega
    have fe15 : nv β 15 = 4 := by omega
    have fe16 : nv β 16 = 1 := by omega
    have fe17 : nv β 17 = 779 := by omega
    have fe18 : nv β 18 = 1 := by omega
    have fe20 : nv β 20 = 1 := by omega
    have fe21 : nv β 21 = 4 := by omega
    have fe22 : nv β 22 = 1 := by omega
    have fe23 : nv β 23 = 1 := by omega
    have fe24 : nv β 24 = 4 := by omega
    have fe26 : nv β 26 = 0 := by omega
    have fe28 : nv β 28 = 1 := by omega
    try simp only [fe0, fe1, fe3, fe5, fe7, fe8, fe9, fe11, fe12, fe13, fe14, fe15, fe16, fe17, fe18, fe20, fe21, fe22, fe23, fe24, fe26, fe28, Int.reduceToNat] at f2 f3 f4 f5
    have s0 : nv β 0 = nv α1 0 := nv_le H1.1 (by omega)
    have s1 : nv β 1 = nv α1 1 := nv_le H1.1 (by omega)
    have s2 : nv β 2 = nv α1 2 := nv_le H1.1 (by omega)
    obtain ⟨c0, c1, c2, c3⟩ := f2
    obtain ⟨α', Ha, hm⟩ := hd_gpM (q := kh_doSpell_a128) (n := 0) (by decide +kernel) hx H1 (by decide +kernel) hxa hf
    have hfr := H1.2.2.2.2.2.2.2.2.2.2.1
    have m0 : nv α' 0 = nv β 0 := hm 0 0 rfl
    have m1 : nv α' 1 = nv β 1 := hm 1 1 rfl
    have m2 : nv α' 2 = nv β 2 := hm 2 2 rfl
    have m3 : nv α' 3 = nv β 4 := hm 3 4 rfl
    have m4 : nv α' 4 = nv β 10 := hm 4 10 rfl
    have m5 : nv α' 5 = nv β 11 := hm 5 11 rfl
    have rt10 := hf_rt (c := 578) (lo := 0) (hi := 199) (base := 579) (rv := 8) (iv := 6) (n := 10) (by decide +kernel) (by decide +kernel) H1 (by decide +kernel) (by omega) (by omega) (by omega)
    have rt4 := hf_rt (c := 573) (lo := 0) (hi := 3) (base := 574) (rv := 3) (iv := 2) (n := 4) (by decide +kernel) (by decide +kernel) H1 (by decide +kernel) (by omega) (by omega) (by omega)
    have o0 := old_i c0 (en_nv (i := 19) H1.2.1 rfl).1
    have o1 := old_i c1 (by have h := (en_nv (i := 13) H1.2.1 rfl).1; rw [fe13] at h; exact h)
    have o3 := old_i c3 (en_nv (i := 6) H1.2.1 rfl).1
    have e3 := fr_cs hfr 574 577 (3, 3, 0) (by decide +kernel) (k := 574 + (nv xs 2).toNat) (j := 3) (by omega) (by omega) (pg_mk (by omega) (by omega) (by omega))
    have e0 := fr_pl hfr 572 0 (by decide +kernel)
    refine (hP _).1 _ _ _ _ Ha ?_ (Nat.lt_succ_self _)
    · rw [m3, m4, e3, e0]
      refine ⟨by omega, ?_, hpre⟩
      rw [show 574 + (nv xs 2).toNat = (nv β 4).toNat by omega, o3]
      omega
  · obtain ⟨f1, f2, f3, f4, f5⟩ := as_fx H1
    simp only [kh_doSpell_b0_17, Nat.reduceEqDiff, if_false, fx_env, fx_c, fx_ne, fx_hf, wl_S, Nat.zero_add, Nat.reduceAdd, Nat.reduceDiv, Nat.reduceMod, List.getElem?_cons_zero, List.getElem?_cons_succ, if_true, and_true, true_and] at f1 f2 f3 f4 f5
    have fe0 : nv β 0 = 572 := by omega
    have fe1 : nv β 1 = 1 := by omega
    have fe3 : nv β 3 = 573 := by omega
    have fe5 : nv β 5 = 3 := by omega
    have fe7 : nv β 7 = (-1) := by omega
    have fe8 : nv β 8 = 578 := by omega
    have fe9 : nv β 9 = 3 := by omega
    have fe11 : nv β 11 = 0 := by omega
    have fe12 : nv β 12 = 4 := by omega
    have fe14 : nv β 14 = 1 := by omega
    try simp only [fe0, fe1, fe3, fe5, fe7, fe8, fe9, fe11, fe12, fe14, Int.reduceToNat] at f2 f3 f4 f5
    have s0 : nv β 0 = nv α1 0 := nv_le H1.1 (by omega)
    have s1 : nv β 1 = nv α1 1 := nv_le H1.1 (by omega)
    have s2 : nv β 2 = nv α1 2 := nv_le H1.1 (by omega)
    obtain ⟨c0, c1, c2⟩ := f2
    exact hd_retVR G (by decide +kernel) (as_backM H1 (by decide +kernel) hxa hf) (by decide +kernel) (by decide) trivial
  · obtain ⟨f1, f2, f3, f4, f5⟩ := as_fx H1
    simp only [kh_doSpell_b0_18, Nat.reduceEqDiff, if_false, fx_env, fx_c, fx_ne, fx_hf, wl_S, Nat.zero_add, Nat.reduceAdd, Nat.reduceDiv, Nat.reduceMod, List.getElem?_cons_zero, List.getElem?_cons_succ, if_true, and_true, true_and] at f1 f2 f3 f4 f5
    have fe0 : nv β 0 = 572 := by omega
    have fe1 : nv β 1 = 1 := by omega
    have fe3 : nv β 3 = 573 := by omega
    have fe5 : nv β 5 = 3 := by omega
    have fe6 : nv β 6 = (-1) := by omega
    have fe7 : nv β 7 = (-1) := by omega
    try simp only [fe0, fe1, fe3, fe5, fe6, fe7, Int.reduceToNat] at f2 f3 f4 f5
    have s0 : nv β 0 = nv α1 0 := nv_le H1.1 (by omega)
    have s1 : nv β 1 = nv α1 1 := nv_le H1.1 (by omega)
    have s2 : nv β 2 = nv α1 2 := nv_le H1.1 (by omega)
    obtain ⟨c0, c1⟩ := f2
    exact hd_retVR G (by decide +kernel) (as_backM H1 (by decide +kernel) hxa hf) (by decide +kernel) (by decide) trivial)
