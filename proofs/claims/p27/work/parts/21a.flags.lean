/-! ===== FLAGS AND RELATIONS ===== -/
def lowI (x : Int) : Int := if x < 9 then 4 * (x / 3) + x % 3 else x - 9
def highI (x : Int) : Int := if x < 9 then lowI x + 1 else x - 5
def wd_ff : Nat → List md_T := fun _ => []
def wd_fl : fl_T := fun c r x y S => match c with
  | 10 => r = lowI x
  | 11 => r = highI x
  | 12 => r = 2450 + 8 * x + y
  | 13 => r = 2401 + 8 * x + y
  | 14 => r = 1301 + 16 * x + y
  | 15 => r = 1820 + 20 * x + y
  | 16 => r = 140 + 4 * (17 * x + y)
  | 1001 => r = (S.1 806 (1302 + 16 * x).toNat).toInt
  | 1000 => r = -1 ∨ 0 ≤ r ∧ r ≤ 16 ∧ (S.1 815 r.toNat).toInt = 1
  | _ => False
theorem wd_fl_ok : fl_ok wd_ff wd_fl := by
  refine ⟨fun g S S' hg hk hr h => ?_, fun c r x y S S' hc h => ?_⟩
  · unfold wd_fl at h ⊢
    split at h <;> first | exact h | omega
  · unfold wd_fl at h ⊢
    split at h <;> first | exact h | omega
def klow (v : Int) : ct_T := (363, [(0, v, v, 0)], [], [], [(1, (0, lowI v, lowI v, 0), [(0, v, v, 0)], [], ([], []))], [], 0, 0, 0)
theorem klow_ok (v : Int) (h1 : 0 ≤ v) (h2 : v ≤ 16) : ct_ok wd_fl (klow v) := by
  have h : v = 0 ∨ v = 1 ∨ v = 2 ∨ v = 3 ∨ v = 4 ∨ v = 5 ∨ v = 6 ∨ v = 7 ∨ v = 8 ∨ v = 9 ∨ v = 10 ∨ v = 11 ∨ v = 12 ∨ v = 13 ∨ v = 14 ∨ v = 15 ∨ v = 16 := by omega
  rcases h with rfl | rfl | rfl | rfl | rfl | rfl | rfl | rfl | rfl | rfl | rfl | rfl | rfl | rfl | rfl | rfl | rfl <;> exact ct_of (ff := wd_ff) (y := (⟨"UtilityWorksModel", "low", "(I)I"⟩, prog_14_method_13_code, 1, some .int, 12, 0, 1, 32230, 32229, 0, 21014)) (Cs := []) (an := []) (ss := []) (K := 1) (fuel := 100) wd_fl_ok rfl (List.forall_mem_nil _) (by decide +kernel)
def kh_low : ct_T := (363, [(0, 0, 16, 1)], [], [], [(1, (0, 0, 10, 1), [(0, 0, 16, 1)], [], ([], [(10, 0, 0)]))], [], 0, 0, 0)
theorem kh_low_ok : ct_ok wd_fl kh_low := ct_each lowI klow (fun v h1 h2 => klow_ok v h1 h2) (fun v _ _ => rfl) (fun v h1 h2 => by
  have : v / 3 ≤ 5 := by omega
  unfold lowI; (repeat' split) <;> omega) (fun v _ _ S w hw => by
  rcases List.mem_singleton.mp hw with rfl
  exact ⟨rfl, rfl, rfl⟩)
def khigh (v : Int) : ct_T := (365, [(0, v, v, 0)], [], [], [(1, (0, highI v, highI v, 0), [(0, v, v, 0)], [], ([], []))], [], 1, 20, 0)
theorem khigh_ok (v : Int) (h1 : 0 ≤ v) (h2 : v ≤ 16) : ct_ok wd_fl (khigh v) := by
  have h : v = 0 ∨ v = 1 ∨ v = 2 ∨ v = 3 ∨ v = 4 ∨ v = 5 ∨ v = 6 ∨ v = 7 ∨ v = 8 ∨ v = 9 ∨ v = 10 ∨ v = 11 ∨ v = 12 ∨ v = 13 ∨ v = 14 ∨ v = 15 ∨ v = 16 := by omega
  rcases h with rfl | rfl | rfl | rfl | rfl | rfl | rfl | rfl | rfl | rfl | rfl | rfl | rfl | rfl | rfl | rfl | rfl <;> exact ct_of (ff := wd_ff) (y := (⟨"UtilityWorksModel", "high", "(I)I"⟩, prog_14_method_14_code, 1, some .int, 12, 0, 1, 32237, 32236, 0, 21014)) (Cs := ((List.range 17).map (fun i => klow (i : Nat)))) (an := []) (ss := []) (K := 1) (fuel := 100) wd_fl_ok rfl (fun Cc hc => by obtain ⟨i, i1, i2⟩ := List.mem_map.mp hc; rw [← i2]; have := List.mem_range.mp i1; exact klow_ok _ (by omega) (by omega)) (by decide +kernel)
def kh_high : ct_T := (365, [(0, 0, 16, 1)], [], [], [(1, (0, 1, 11, 1), [(0, 0, 16, 1)], [], ([], [(11, 0, 0)]))], [], 1, 20, 0)
theorem kh_high_ok : ct_ok wd_fl kh_high := ct_each highI khigh (fun v h1 h2 => khigh_ok v h1 h2) (fun v _ _ => rfl) (fun v h1 h2 => by
  have : v / 3 ≤ 5 := by omega
  unfold highI lowI; (repeat' split) <;> omega) (fun v _ _ S w hw => by
  rcases List.mem_singleton.mp hw with rfl
  exact ⟨rfl, rfl, rfl⟩)
def kh_cJ : ct_T := (394, [(0, 0, 199, 1), (0, 0, 5, 1)], [], [], [(1, (0, 2450, 4047, 1), [(0, 0, 199, 1), (0, 0, 5, 1)], [], ([], [(12, 0, 1)]))], [], 0, 0, 0)
theorem kh_cJ_ok : ct_ok wd_fl kh_cJ := ct_hand (ff := wd_ff) (y := (⟨"UtilityWorksModel", "cJ", "(II)I"⟩, prog_14_method_267_code, 2, some .int, 12, 0, 2, 33112, 33111, 0, 21014)) (Cs := []) wd_fl_ok rfl (List.forall_mem_nil _) (by decide +kernel) (fun l D tc ad kd N sm xs S p e s m args below meth c sz lv G H0 => by
  obtain ⟨α, hle, H⟩ := as_rec_in (pl := []) rfl H0
  refine hd_seg G (na := 2) (fuel := 50) (first := true) (Bs := [(10, 0, ([((0, 0, 199, 1), none), ((0, 0, 5, 1), none), ((0, 2450, 2450, 0), none), ((0, 8, 8, 0), none), ((0, 0, 1592, 8), none), ((0, 2450, 4042, 8), none), ((0, 2450, 4047, 1), none)], [(0, 0), (1, 1)], [6], [], [], [(500006, 5, 1), (500005, 2, 4), (700004, 3, 0)], [], [], some []))]) (by decide +kernel) (by rw [H.2.1.1]; rfl) H ?_
  intro q hq β lv' st' S' H1
  rcases List.mem_singleton.mp hq with rfl
  obtain ⟨f1, f2, f3, f4, f5⟩ := as_fx H1
  simp only [fx_env, fx_c, fx_ne, fx_hf, wl_S, Nat.zero_add, Nat.reduceAdd, Nat.reduceDiv, Nat.reduceMod, List.getElem?_cons_zero, List.getElem?_cons_succ, if_true, and_true, true_and] at f1 f2 f3 f4 f5
  have fe2 : nv β 2 = 2450 := by omega
  have fe3 : nv β 3 = 8 := by omega
  try simp only [fe2, fe3, Int.reduceToNat] at f2 f3 f4 f5
  have Hb := as_back H1 hle H0.2.2.2.2.2.2.2.2.2.2.1
  refine hd_retI G (v := 6) (by decide +kernel) Hb _ List.mem_cons_self rfl (by decide +kernel) (by decide) (fun w hw => ?_)
  rcases List.mem_singleton.mp hw with rfl
  have g0 := (en_nv (i := 0) H0.2.1 rfl).1
  have g1 := (en_nv (i := 1) H0.2.1 rfl).1
  refine ⟨_, _, g0, g1, ?_⟩
  rw [← nv_le (Hb.1) (by rw [H0.2.1.1]; decide), ← nv_le (Hb.1) (by rw [H0.2.1.1]; decide)]
  show nv β 6 = 2450 + 8 * nv β 0 + nv β 1
  omega)
def kh_cC : ct_T := (345, [(0, 0, 3, 1), (0, 0, 6, 1)], [], [], [(1, (0, 2401, 2431, 1), [(0, 0, 3, 1), (0, 0, 6, 1)], [], ([], [(13, 0, 1)]))], [], 0, 0, 0)
theorem kh_cC_ok : ct_ok wd_fl kh_cC := ct_hand (ff := wd_ff) (y := (⟨"UtilityWorksModel", "cC", "(II)I"⟩, prog_14_method_266_code, 2, some .int, 12, 0, 2, 31195, 31194, 0, 21014)) (Cs := []) wd_fl_ok rfl (List.forall_mem_nil _) (by decide +kernel) (fun l D tc ad kd N sm xs S p e s m args below meth c sz lv G H0 => by
  obtain ⟨α, hle, H⟩ := as_rec_in (pl := []) rfl H0
  refine hd_seg G (na := 2) (fuel := 50) (first := true) (Bs := [(10, 0, ([((0, 0, 3, 1), none), ((0, 0, 6, 1), none), ((0, 2401, 2401, 0), none), ((0, 8, 8, 0), none), ((0, 0, 24, 8), none), ((0, 2401, 2425, 8), none), ((0, 2401, 2431, 1), none)], [(0, 0), (1, 1)], [6], [], [], [(500006, 5, 1), (500005, 2, 4), (700004, 3, 0)], [], [], some []))]) (by decide +kernel) (by rw [H.2.1.1]; rfl) H ?_
  intro q hq β lv' st' S' H1
  rcases List.mem_singleton.mp hq with rfl
  obtain ⟨f1, f2, f3, f4, f5⟩ := as_fx H1
  simp only [fx_env, fx_c, fx_ne, fx_hf, wl_S, Nat.zero_add, Nat.reduceAdd, Nat.reduceDiv, Nat.reduceMod, List.getElem?_cons_zero, List.getElem?_cons_succ, if_true, and_true, true_and] at f1 f2 f3 f4 f5
  have fe2 : nv β 2 = 2401 := by omega
  have fe3 : nv β 3 = 8 := by omega
  try simp only [fe2, fe3, Int.reduceToNat] at f2 f3 f4 f5
  have Hb := as_back H1 hle H0.2.2.2.2.2.2.2.2.2.2.1
  refine hd_retI G (v := 6) (by decide +kernel) Hb _ List.mem_cons_self rfl (by decide +kernel) (by decide) (fun w hw => ?_)
  rcases List.mem_singleton.mp hw with rfl
  have g0 := (en_nv (i := 0) H0.2.1 rfl).1
  have g1 := (en_nv (i := 1) H0.2.1 rfl).1
  refine ⟨_, _, g0, g1, ?_⟩
  rw [← nv_le (Hb.1) (by rw [H0.2.1.1]; decide), ← nv_le (Hb.1) (by rw [H0.2.1.1]; decide)]
  show nv β 6 = 2401 + 8 * nv β 0 + nv β 1
  omega)
def kh_mC : ct_T := (338, [(0, 0, 9, 1), (0, 0, 15, 1)], [], [], [(1, (0, 1301, 1460, 1), [(0, 0, 9, 1), (0, 0, 15, 1)], [], ([], [(14, 0, 1)]))], [], 0, 0, 0)
theorem kh_mC_ok : ct_ok wd_fl kh_mC := ct_hand (ff := wd_ff) (y := (⟨"UtilityWorksModel", "mC", "(II)I"⟩, prog_14_method_192_code, 2, some .int, 12, 0, 2, 31168, 31167, 0, 21014)) (Cs := []) wd_fl_ok rfl (List.forall_mem_nil _) (by decide +kernel) (fun l D tc ad kd N sm xs S p e s m args below meth c sz lv G H0 => by
  obtain ⟨α, hle, H⟩ := as_rec_in (pl := []) rfl H0
  refine hd_seg G (na := 2) (fuel := 50) (first := true) (Bs := [(10, 0, ([((0, 0, 9, 1), none), ((0, 0, 15, 1), none), ((0, 1301, 1301, 0), none), ((0, 16, 16, 0), none), ((0, 0, 144, 16), none), ((0, 1301, 1445, 16), none), ((0, 1301, 1460, 1), none)], [(0, 0), (1, 1)], [6], [], [], [(500006, 5, 1), (500005, 2, 4), (700004, 3, 0)], [], [], some []))]) (by decide +kernel) (by rw [H.2.1.1]; rfl) H ?_
  intro q hq β lv' st' S' H1
  rcases List.mem_singleton.mp hq with rfl
  obtain ⟨f1, f2, f3, f4, f5⟩ := as_fx H1
  simp only [fx_env, fx_c, fx_ne, fx_hf, wl_S, Nat.zero_add, Nat.reduceAdd, Nat.reduceDiv, Nat.reduceMod, List.getElem?_cons_zero, List.getElem?_cons_succ, if_true, and_true, true_and] at f1 f2 f3 f4 f5
  have fe2 : nv β 2 = 1301 := by omega
  have fe3 : nv β 3 = 16 := by omega
  try simp only [fe2, fe3, Int.reduceToNat] at f2 f3 f4 f5
  have Hb := as_back H1 hle H0.2.2.2.2.2.2.2.2.2.2.1
  refine hd_retI G (v := 6) (by decide +kernel) Hb _ List.mem_cons_self rfl (by decide +kernel) (by decide) (fun w hw => ?_)
  rcases List.mem_singleton.mp hw with rfl
  have g0 := (en_nv (i := 0) H0.2.1 rfl).1
  have g1 := (en_nv (i := 1) H0.2.1 rfl).1
  refine ⟨_, _, g0, g1, ?_⟩
  rw [← nv_le (Hb.1) (by rw [H0.2.1.1]; decide), ← nv_le (Hb.1) (by rw [H0.2.1.1]; decide)]
  show nv β 6 = 1301 + 16 * nv β 0 + nv β 1
  omega)
def kh_bC : ct_T := (413, [(0, 0, 9, 1), (0, 0, 19, 1)], [], [], [(1, (0, 1820, 2019, 1), [(0, 0, 9, 1), (0, 0, 19, 1)], [], ([], [(15, 0, 1)]))], [], 0, 0, 0)
theorem kh_bC_ok : ct_ok wd_fl kh_bC := ct_hand (ff := wd_ff) (y := (⟨"UtilityWorksModel", "bC", "(II)I"⟩, prog_14_method_227_code, 2, some .int, 12, 0, 2, 33186, 33185, 0, 21014)) (Cs := []) wd_fl_ok rfl (List.forall_mem_nil _) (by decide +kernel) (fun l D tc ad kd N sm xs S p e s m args below meth c sz lv G H0 => by
  obtain ⟨α, hle, H⟩ := as_rec_in (pl := []) rfl H0
  refine hd_seg G (na := 2) (fuel := 50) (first := true) (Bs := [(10, 0, ([((0, 0, 9, 1), none), ((0, 0, 19, 1), none), ((0, 1820, 1820, 0), none), ((0, 20, 20, 0), none), ((0, 0, 180, 20), none), ((0, 1820, 2000, 20), none), ((0, 1820, 2019, 1), none)], [(0, 0), (1, 1)], [6], [], [], [(500006, 5, 1), (500005, 2, 4), (700004, 3, 0)], [], [], some []))]) (by decide +kernel) (by rw [H.2.1.1]; rfl) H ?_
  intro q hq β lv' st' S' H1
  rcases List.mem_singleton.mp hq with rfl
  obtain ⟨f1, f2, f3, f4, f5⟩ := as_fx H1
  simp only [fx_env, fx_c, fx_ne, fx_hf, wl_S, Nat.zero_add, Nat.reduceAdd, Nat.reduceDiv, Nat.reduceMod, List.getElem?_cons_zero, List.getElem?_cons_succ, if_true, and_true, true_and] at f1 f2 f3 f4 f5
  have fe2 : nv β 2 = 1820 := by omega
  have fe3 : nv β 3 = 20 := by omega
  try simp only [fe2, fe3, Int.reduceToNat] at f2 f3 f4 f5
  have Hb := as_back H1 hle H0.2.2.2.2.2.2.2.2.2.2.1
  refine hd_retI G (v := 6) (by decide +kernel) Hb _ List.mem_cons_self rfl (by decide +kernel) (by decide) (fun w hw => ?_)
  rcases List.mem_singleton.mp hw with rfl
  have g0 := (en_nv (i := 0) H0.2.1 rfl).1
  have g1 := (en_nv (i := 1) H0.2.1 rfl).1
  refine ⟨_, _, g0, g1, ?_⟩
  rw [← nv_le (Hb.1) (by rw [H0.2.1.1]; decide), ← nv_le (Hb.1) (by rw [H0.2.1.1]; decide)]
  show nv β 6 = 1820 + 20 * nv β 0 + nv β 1
  omega)
